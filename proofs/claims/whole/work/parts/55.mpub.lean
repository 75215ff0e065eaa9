theorem TsI.sw {co : Nat → Int → Int} (h : TsI co) {k w : Int} (h0 : 0 ≤ k) (h1 : k < 16) (w0 : 0 ≤ w) (w1 : w < 8) (q : hrd co k w) : co 8 (k * 8 + w) = 1 ∨ co 8 (k * 8 + w) = -1 := by
  obtain ⟨hk, j, j0, j1, j2⟩ := h.2.2.1 k w h0 h1 w0 w1 q
  have := (h.a h0 hk j0 j1).2.2
  rw [j2] at this
  exact this
set_option maxHeartbeats 4000000 in
set_option maxRecDepth 20000 in
theorem c_X10_isFine_1 (l : Launch) (E : Nat → Nat → Nat) (b : Nat) (mo : Nat → Int → Int) : Mu l yX10_isFine cX10_isFine 2 (some .boolean) 0 0 0 E [(b, 5)] [.ref b, .int (zI 1)] (fun H => PR E b (modelW E b mo) H) (fun rv H => rv = some (.int (zI 1)) ∧ PR E b (modelW E b (updC mo 0 (updZ (mo 0) 0 0))) H) := by
  refine Mu.start (own := RX10) rfl (by decide +kernel) (Nat.le_of_ble_eq_true rfl) ?_
  intro p e s m below meth cd args Q hQ X hr hlk hnm hM hPr
  have h_mo := hPr
  refine v_aload_n X dX10_isFine_0 1 rfl 0 rfl ?_
  refine v_iload_n X dX10_isFine_1 2 rfl 1 rfl ?_
  refine v_if_eq X (by omega) dX10_isFine_2 5 9 rfl (by decide) (fun c_1 => ?_) (fun c_1 => ?_)
  · skip
    exfalso; omega
  · skip
    refine v_iconst X dX10_isFine_5 6 rfl ?_
    refine v_goto X dX10_isFine_6 10 (by decide) ?_
    refine v_putf X hM h_mo ftX10 0 rfl rfl 0 (by decide) kf_X10_30 (fun _ h => h) rfl rfl rfl (Nat.le_of_ble_eq_true rfl) (Or.inl (fsH (by omega) (by omega))) dX10_isFine_10 13 rfl (ws' := modelW E b (updC mo 0 (updZ (mo 0) 0 0))) rfl (fun H2 lo2 hzz hM hF h_mo => ?_)
    clear hzz
    refine v_iload_n X dX10_isFine_13 14 rfl 1 rfl ?_
    subst hQ; exact m_zret X hr hlk hM dX10_isFine_14 rfl (by omega) ⟨rfl, h_mo⟩
set_option maxHeartbeats 4000000 in
set_option maxRecDepth 20000 in
theorem c_X10_isFine_0 (l : Launch) (E : Nat → Nat → Nat) (b : Nat) (mo : Nat → Int → Int) : Mu l yX10_isFine cX10_isFine 2 (some .boolean) 0 0 0 E [(b, 5)] [.ref b, .int (zI 0)] (fun H => PR E b (modelW E b mo) H) (fun rv H => rv = some (.int (zI 0)) ∧ PR E b (modelW E b (updC mo 0 (updZ (mo 0) 0 1))) H) := by
  refine Mu.start (own := RX10) rfl (by decide +kernel) (Nat.le_of_ble_eq_true rfl) ?_
  intro p e s m below meth cd args Q hQ X hr hlk hnm hM hPr
  have h_mo := hPr
  refine v_aload_n X dX10_isFine_0 1 rfl 0 rfl ?_
  refine v_iload_n X dX10_isFine_1 2 rfl 1 rfl ?_
  refine v_if_eq X (by omega) dX10_isFine_2 5 9 rfl (by decide) (fun c_1 => ?_) (fun c_1 => ?_)
  · skip
    refine v_iconst X dX10_isFine_9 10 rfl ?_
    refine v_putf X hM h_mo ftX10 0 rfl rfl 0 (by decide) kf_X10_30 (fun _ h => h) rfl rfl rfl (Nat.le_of_ble_eq_true rfl) (Or.inl (fsH (by omega) (by omega))) dX10_isFine_10 13 rfl (ws' := modelW E b (updC mo 0 (updZ (mo 0) 0 1))) rfl (fun H2 lo2 hzz hM hF h_mo => ?_)
    clear hzz
    refine v_iload_n X dX10_isFine_13 14 rfl 1 rfl ?_
    subst hQ; exact m_zret X hr hlk hM dX10_isFine_14 rfl (by omega) ⟨rfl, h_mo⟩
  · skip
    exfalso; omega
set_option maxHeartbeats 4000000 in
set_option maxRecDepth 20000 in
theorem c_X10_ofCase_c0 (l : Launch) (E : Nat → Nat → Nat) (b : Nat) (mo : Nat → Int → Int) (co : Nat → Int → Int) (k : Int) (hO : OkC co) (hR : RelC co (mo 1)) (gk : Rg k) (p0 : 0 ≤ k ∧ k < co 0 0) : Mu l yX10_ofCase cX10_ofCase 3 (some .int) 2 0 0 E [(b, 5)] [.ref b, .int (zI k), .int (zI 0)] (fun H => PR E b (modelW E b mo) H) (fun rv H => rv = some (.int (zI (co 1 k))) ∧ PR E b (modelW E b (updC mo 0 (updZ (mo 0) 0 0))) H) := by
  refine Mu.start (own := RX10) rfl (by decide +kernel) (Nat.le_of_ble_eq_true rfl) ?_
  intro p e s m below meth cd args Q hQ X hr hlk hnm hM hPr
  have h_mo := hPr
  have hb0 := hO.b0
  have hbw := hO.bw
  have hr0 := hR.s0
  have hr1 := hR.s1
  refine v_aload_n X dX10_ofCase_0 1 rfl 0 rfl ?_
  refine v_aload_n X dX10_ofCase_1 2 rfl 0 rfl ?_
  refine v_iload_n X dX10_ofCase_2 3 rfl 1 rfl ?_
  refine v_rdV X hM.C h_mo.1 (c_X10_isCase l E b mo co k hO hR gk) kvX10_isCase kiX10_isCase kl_X10_92 rfl rfl (As := [.int (zI k)]) rfl rfl rfl dX10_ofCase_3 6 rfl ?_
  show V p l e (rmL 2 0 0) s m args below meth cd Q 3 s.heap [] 0 0 6 [(0, .ref b), (1, .int (zI k)), (2, .int (zI 0))] [.int (zI (bz (0 ≤ k ∧ k < co 0 0))), .ref b]
  refine V_S (st' := [.int (zI 1), .ref b]) (by rw [bz_t (φ := 0 ≤ k ∧ k < co 0 0) (by first | omega | assumption)]) ?_
  refine v_muV X hM (h_mo.1) (c_X10_isFine_1 l E b mo) kvX10_isFine kiX10_isFine kl_X10_124 (q0 := 0) rfl rfl (As := [.int (zI 1)]) rfl rfl rfl dX10_ofCase_6 9 rfl (k' := 0) (n' := 0) rfl rfl (fsI (fun q q1 q2 => (Or.inl (fsH (by omega) (by omega))))) h_mo (fun rv H1 lo1 hM hF hpo => ?_)
  obtain ⟨rfl, hw_0⟩ := hpo
  have h_mo : PR E b (modelW E b (updC mo 0 (updZ (mo 0) 0 0))) H1 := hw_0
  show V p l e (rmL 2 0 0) s m args below meth cd Q 3 H1 lo1 0 0 9 [(0, .ref b), (1, .int (zI k)), (2, .int (zI 0))] [.int (zI 1)]
  refine v_if_eq X (by omega) dX10_ofCase_9 12 21 rfl (by decide) (fun c_2 => ?_) (fun c_2 => ?_)
  · skip
    exfalso; omega
  · skip
    refine v_aload_n X dX10_ofCase_12 13 rfl 0 rfl ?_
    refine v_iload_n X dX10_ofCase_13 14 rfl 1 rfl ?_
    refine v_iload_n X dX10_ofCase_14 15 rfl 2 rfl ?_
    have hb_3 := hO.b0
    refine v_rdV X hM.C h_mo.1 (c_X10_c_0 l E b (updC mo 0 (updZ (mo 0) 0 0)) co k hO hR (by omega) (by omega)) kvX10_c kiX10_c kl_X10_47 rfl rfl (As := [.int (zI k), .int (zI 0)]) rfl rfl rfl dX10_ofCase_15 18 rfl ?_
    show V p l e (rmL 2 0 0) s m args below meth cd Q 3 H1 lo1 0 0 18 [(0, .ref b), (1, .int (zI k)), (2, .int (zI 0))] [.int (zI (co 1 k))]
    have hb_4 := hO.b1 k
    refine v_goto X dX10_ofCase_18 22 (by decide) ?_
    subst hQ; exact m_iret X hr hlk hM dX10_ofCase_22 rfl ⟨rfl, h_mo⟩
set_option maxHeartbeats 4000000 in
set_option maxRecDepth 20000 in
theorem c_X10_ofCase_c0_0 (l : Launch) (E : Nat → Nat → Nat) (b : Nat) (mo : Nat → Int → Int) (co : Nat → Int → Int) (k : Int) (hO : OkC co) (hR : RelC co (mo 1)) (gk : Rg k) (nk : ¬ (0 ≤ k ∧ k < co 0 0)) : Mu l yX10_ofCase cX10_ofCase 3 (some .int) 2 0 0 E [(b, 5)] [.ref b, .int (zI k), .int (zI 0)] (fun H => PR E b (modelW E b mo) H) (fun rv H => rv = some (.int (zI 0)) ∧ PR E b (modelW E b (updC mo 0 (updZ (mo 0) 0 1))) H) := by
  refine Mu.start (own := RX10) rfl (by decide +kernel) (Nat.le_of_ble_eq_true rfl) ?_
  intro p e s m below meth cd args Q hQ X hr hlk hnm hM hPr
  have h_mo := hPr
  have hb0 := hO.b0
  have hbw := hO.bw
  have hr0 := hR.s0
  have hr1 := hR.s1
  refine v_aload_n X dX10_ofCase_0 1 rfl 0 rfl ?_
  refine v_aload_n X dX10_ofCase_1 2 rfl 0 rfl ?_
  refine v_iload_n X dX10_ofCase_2 3 rfl 1 rfl ?_
  refine v_rdV X hM.C h_mo.1 (c_X10_isCase l E b mo co k hO hR gk) kvX10_isCase kiX10_isCase kl_X10_92 rfl rfl (As := [.int (zI k)]) rfl rfl rfl dX10_ofCase_3 6 rfl ?_
  show V p l e (rmL 2 0 0) s m args below meth cd Q 3 s.heap [] 0 0 6 [(0, .ref b), (1, .int (zI k)), (2, .int (zI 0))] [.int (zI (bz (0 ≤ k ∧ k < co 0 0))), .ref b]
  refine V_S (st' := [.int (zI 0), .ref b]) (by rw [bz_f (φ := 0 ≤ k ∧ k < co 0 0) (by first | omega | assumption)]) ?_
  refine v_muV X hM (h_mo.1) (c_X10_isFine_0 l E b mo) kvX10_isFine kiX10_isFine kl_X10_124 (q0 := 0) rfl rfl (As := [.int (zI 0)]) rfl rfl rfl dX10_ofCase_6 9 rfl (k' := 0) (n' := 0) rfl rfl (fsI (fun q q1 q2 => (Or.inl (fsH (by omega) (by omega))))) h_mo (fun rv H1 lo1 hM hF hpo => ?_)
  obtain ⟨rfl, hw_0⟩ := hpo
  have h_mo : PR E b (modelW E b (updC mo 0 (updZ (mo 0) 0 1))) H1 := hw_0
  show V p l e (rmL 2 0 0) s m args below meth cd Q 3 H1 lo1 0 0 9 [(0, .ref b), (1, .int (zI k)), (2, .int (zI 0))] [.int (zI 0)]
  refine v_if_eq X (by omega) dX10_ofCase_9 12 21 rfl (by decide) (fun c_2 => ?_) (fun c_2 => ?_)
  · skip
    refine v_iconst X dX10_ofCase_21 22 rfl ?_
    subst hQ; exact m_iret X hr hlk hM dX10_ofCase_22 rfl ⟨rfl, h_mo⟩
  · skip
    exfalso; omega
set_option maxHeartbeats 4000000 in
set_option maxRecDepth 20000 in
theorem c_X10_ofCase_c1 (l : Launch) (E : Nat → Nat → Nat) (b : Nat) (mo : Nat → Int → Int) (co : Nat → Int → Int) (k : Int) (hO : OkC co) (hR : RelC co (mo 1)) (gk : Rg k) (p0 : 0 ≤ k ∧ k < co 0 0) : Mu l yX10_ofCase cX10_ofCase 3 (some .int) 2 0 0 E [(b, 5)] [.ref b, .int (zI k), .int (zI 1)] (fun H => PR E b (modelW E b mo) H) (fun rv H => rv = some (.int (zI (co 2 k))) ∧ PR E b (modelW E b (updC mo 0 (updZ (mo 0) 0 0))) H) := by
  refine Mu.start (own := RX10) rfl (by decide +kernel) (Nat.le_of_ble_eq_true rfl) ?_
  intro p e s m below meth cd args Q hQ X hr hlk hnm hM hPr
  have h_mo := hPr
  have hb0 := hO.b0
  have hbw := hO.bw
  have hr0 := hR.s0
  have hr1 := hR.s1
  refine v_aload_n X dX10_ofCase_0 1 rfl 0 rfl ?_
  refine v_aload_n X dX10_ofCase_1 2 rfl 0 rfl ?_
  refine v_iload_n X dX10_ofCase_2 3 rfl 1 rfl ?_
  refine v_rdV X hM.C h_mo.1 (c_X10_isCase l E b mo co k hO hR gk) kvX10_isCase kiX10_isCase kl_X10_92 rfl rfl (As := [.int (zI k)]) rfl rfl rfl dX10_ofCase_3 6 rfl ?_
  show V p l e (rmL 2 0 0) s m args below meth cd Q 3 s.heap [] 0 0 6 [(0, .ref b), (1, .int (zI k)), (2, .int (zI 1))] [.int (zI (bz (0 ≤ k ∧ k < co 0 0))), .ref b]
  refine V_S (st' := [.int (zI 1), .ref b]) (by rw [bz_t (φ := 0 ≤ k ∧ k < co 0 0) (by first | omega | assumption)]) ?_
  refine v_muV X hM (h_mo.1) (c_X10_isFine_1 l E b mo) kvX10_isFine kiX10_isFine kl_X10_124 (q0 := 0) rfl rfl (As := [.int (zI 1)]) rfl rfl rfl dX10_ofCase_6 9 rfl (k' := 0) (n' := 0) rfl rfl (fsI (fun q q1 q2 => (Or.inl (fsH (by omega) (by omega))))) h_mo (fun rv H1 lo1 hM hF hpo => ?_)
  obtain ⟨rfl, hw_0⟩ := hpo
  have h_mo : PR E b (modelW E b (updC mo 0 (updZ (mo 0) 0 0))) H1 := hw_0
  show V p l e (rmL 2 0 0) s m args below meth cd Q 3 H1 lo1 0 0 9 [(0, .ref b), (1, .int (zI k)), (2, .int (zI 1))] [.int (zI 1)]
  refine v_if_eq X (by omega) dX10_ofCase_9 12 21 rfl (by decide) (fun c_2 => ?_) (fun c_2 => ?_)
  · skip
    exfalso; omega
  · skip
    refine v_aload_n X dX10_ofCase_12 13 rfl 0 rfl ?_
    refine v_iload_n X dX10_ofCase_13 14 rfl 1 rfl ?_
    refine v_iload_n X dX10_ofCase_14 15 rfl 2 rfl ?_
    have hb_3 := hO.b0
    refine v_rdV X hM.C h_mo.1 (c_X10_c_1 l E b (updC mo 0 (updZ (mo 0) 0 0)) co k hO hR (by omega) (by omega)) kvX10_c kiX10_c kl_X10_47 rfl rfl (As := [.int (zI k), .int (zI 1)]) rfl rfl rfl dX10_ofCase_15 18 rfl ?_
    show V p l e (rmL 2 0 0) s m args below meth cd Q 3 H1 lo1 0 0 18 [(0, .ref b), (1, .int (zI k)), (2, .int (zI 1))] [.int (zI (co 2 k))]
    have hb_4 := hO.b2 k
    refine v_goto X dX10_ofCase_18 22 (by decide) ?_
    subst hQ; exact m_iret X hr hlk hM dX10_ofCase_22 rfl ⟨rfl, h_mo⟩
set_option maxHeartbeats 4000000 in
set_option maxRecDepth 20000 in
theorem c_X10_ofCase_c1_0 (l : Launch) (E : Nat → Nat → Nat) (b : Nat) (mo : Nat → Int → Int) (co : Nat → Int → Int) (k : Int) (hO : OkC co) (hR : RelC co (mo 1)) (gk : Rg k) (nk : ¬ (0 ≤ k ∧ k < co 0 0)) : Mu l yX10_ofCase cX10_ofCase 3 (some .int) 2 0 0 E [(b, 5)] [.ref b, .int (zI k), .int (zI 1)] (fun H => PR E b (modelW E b mo) H) (fun rv H => rv = some (.int (zI 0)) ∧ PR E b (modelW E b (updC mo 0 (updZ (mo 0) 0 1))) H) := by
  refine Mu.start (own := RX10) rfl (by decide +kernel) (Nat.le_of_ble_eq_true rfl) ?_
  intro p e s m below meth cd args Q hQ X hr hlk hnm hM hPr
  have h_mo := hPr
  have hb0 := hO.b0
  have hbw := hO.bw
  have hr0 := hR.s0
  have hr1 := hR.s1
  refine v_aload_n X dX10_ofCase_0 1 rfl 0 rfl ?_
  refine v_aload_n X dX10_ofCase_1 2 rfl 0 rfl ?_
  refine v_iload_n X dX10_ofCase_2 3 rfl 1 rfl ?_
  refine v_rdV X hM.C h_mo.1 (c_X10_isCase l E b mo co k hO hR gk) kvX10_isCase kiX10_isCase kl_X10_92 rfl rfl (As := [.int (zI k)]) rfl rfl rfl dX10_ofCase_3 6 rfl ?_
  show V p l e (rmL 2 0 0) s m args below meth cd Q 3 s.heap [] 0 0 6 [(0, .ref b), (1, .int (zI k)), (2, .int (zI 1))] [.int (zI (bz (0 ≤ k ∧ k < co 0 0))), .ref b]
  refine V_S (st' := [.int (zI 0), .ref b]) (by rw [bz_f (φ := 0 ≤ k ∧ k < co 0 0) (by first | omega | assumption)]) ?_
  refine v_muV X hM (h_mo.1) (c_X10_isFine_0 l E b mo) kvX10_isFine kiX10_isFine kl_X10_124 (q0 := 0) rfl rfl (As := [.int (zI 0)]) rfl rfl rfl dX10_ofCase_6 9 rfl (k' := 0) (n' := 0) rfl rfl (fsI (fun q q1 q2 => (Or.inl (fsH (by omega) (by omega))))) h_mo (fun rv H1 lo1 hM hF hpo => ?_)
  obtain ⟨rfl, hw_0⟩ := hpo
  have h_mo : PR E b (modelW E b (updC mo 0 (updZ (mo 0) 0 1))) H1 := hw_0
  show V p l e (rmL 2 0 0) s m args below meth cd Q 3 H1 lo1 0 0 9 [(0, .ref b), (1, .int (zI k)), (2, .int (zI 1))] [.int (zI 0)]
  refine v_if_eq X (by omega) dX10_ofCase_9 12 21 rfl (by decide) (fun c_2 => ?_) (fun c_2 => ?_)
  · skip
    refine v_iconst X dX10_ofCase_21 22 rfl ?_
    subst hQ; exact m_iret X hr hlk hM dX10_ofCase_22 rfl ⟨rfl, h_mo⟩
  · skip
    exfalso; omega
set_option maxHeartbeats 4000000 in
set_option maxRecDepth 20000 in
theorem c_X10_ofCase_c2 (l : Launch) (E : Nat → Nat → Nat) (b : Nat) (mo : Nat → Int → Int) (co : Nat → Int → Int) (k : Int) (hO : OkC co) (hR : RelC co (mo 1)) (gk : Rg k) (p0 : 0 ≤ k ∧ k < co 0 0) : Mu l yX10_ofCase cX10_ofCase 3 (some .int) 2 0 0 E [(b, 5)] [.ref b, .int (zI k), .int (zI 2)] (fun H => PR E b (modelW E b mo) H) (fun rv H => rv = some (.int (zI (co 3 k))) ∧ PR E b (modelW E b (updC mo 0 (updZ (mo 0) 0 0))) H) := by
  refine Mu.start (own := RX10) rfl (by decide +kernel) (Nat.le_of_ble_eq_true rfl) ?_
  intro p e s m below meth cd args Q hQ X hr hlk hnm hM hPr
  have h_mo := hPr
  have hb0 := hO.b0
  have hbw := hO.bw
  have hr0 := hR.s0
  have hr1 := hR.s1
  refine v_aload_n X dX10_ofCase_0 1 rfl 0 rfl ?_
  refine v_aload_n X dX10_ofCase_1 2 rfl 0 rfl ?_
  refine v_iload_n X dX10_ofCase_2 3 rfl 1 rfl ?_
  refine v_rdV X hM.C h_mo.1 (c_X10_isCase l E b mo co k hO hR gk) kvX10_isCase kiX10_isCase kl_X10_92 rfl rfl (As := [.int (zI k)]) rfl rfl rfl dX10_ofCase_3 6 rfl ?_
  show V p l e (rmL 2 0 0) s m args below meth cd Q 3 s.heap [] 0 0 6 [(0, .ref b), (1, .int (zI k)), (2, .int (zI 2))] [.int (zI (bz (0 ≤ k ∧ k < co 0 0))), .ref b]
  refine V_S (st' := [.int (zI 1), .ref b]) (by rw [bz_t (φ := 0 ≤ k ∧ k < co 0 0) (by first | omega | assumption)]) ?_
  refine v_muV X hM (h_mo.1) (c_X10_isFine_1 l E b mo) kvX10_isFine kiX10_isFine kl_X10_124 (q0 := 0) rfl rfl (As := [.int (zI 1)]) rfl rfl rfl dX10_ofCase_6 9 rfl (k' := 0) (n' := 0) rfl rfl (fsI (fun q q1 q2 => (Or.inl (fsH (by omega) (by omega))))) h_mo (fun rv H1 lo1 hM hF hpo => ?_)
  obtain ⟨rfl, hw_0⟩ := hpo
  have h_mo : PR E b (modelW E b (updC mo 0 (updZ (mo 0) 0 0))) H1 := hw_0
  show V p l e (rmL 2 0 0) s m args below meth cd Q 3 H1 lo1 0 0 9 [(0, .ref b), (1, .int (zI k)), (2, .int (zI 2))] [.int (zI 1)]
  refine v_if_eq X (by omega) dX10_ofCase_9 12 21 rfl (by decide) (fun c_2 => ?_) (fun c_2 => ?_)
  · skip
    exfalso; omega
  · skip
    refine v_aload_n X dX10_ofCase_12 13 rfl 0 rfl ?_
    refine v_iload_n X dX10_ofCase_13 14 rfl 1 rfl ?_
    refine v_iload_n X dX10_ofCase_14 15 rfl 2 rfl ?_
    have hb_3 := hO.b0
    refine v_rdV X hM.C h_mo.1 (c_X10_c_2 l E b (updC mo 0 (updZ (mo 0) 0 0)) co k hO hR (by omega) (by omega)) kvX10_c kiX10_c kl_X10_47 rfl rfl (As := [.int (zI k), .int (zI 2)]) rfl rfl rfl dX10_ofCase_15 18 rfl ?_
    show V p l e (rmL 2 0 0) s m args below meth cd Q 3 H1 lo1 0 0 18 [(0, .ref b), (1, .int (zI k)), (2, .int (zI 2))] [.int (zI (co 3 k))]
    have hb_4 := hO.b3 k
    refine v_goto X dX10_ofCase_18 22 (by decide) ?_
    subst hQ; exact m_iret X hr hlk hM dX10_ofCase_22 rfl ⟨rfl, h_mo⟩
set_option maxHeartbeats 4000000 in
set_option maxRecDepth 20000 in
theorem c_X10_ofCase_c2_0 (l : Launch) (E : Nat → Nat → Nat) (b : Nat) (mo : Nat → Int → Int) (co : Nat → Int → Int) (k : Int) (hO : OkC co) (hR : RelC co (mo 1)) (gk : Rg k) (nk : ¬ (0 ≤ k ∧ k < co 0 0)) : Mu l yX10_ofCase cX10_ofCase 3 (some .int) 2 0 0 E [(b, 5)] [.ref b, .int (zI k), .int (zI 2)] (fun H => PR E b (modelW E b mo) H) (fun rv H => rv = some (.int (zI 0)) ∧ PR E b (modelW E b (updC mo 0 (updZ (mo 0) 0 1))) H) := by
  refine Mu.start (own := RX10) rfl (by decide +kernel) (Nat.le_of_ble_eq_true rfl) ?_
  intro p e s m below meth cd args Q hQ X hr hlk hnm hM hPr
  have h_mo := hPr
  have hb0 := hO.b0
  have hbw := hO.bw
  have hr0 := hR.s0
  have hr1 := hR.s1
  refine v_aload_n X dX10_ofCase_0 1 rfl 0 rfl ?_
  refine v_aload_n X dX10_ofCase_1 2 rfl 0 rfl ?_
  refine v_iload_n X dX10_ofCase_2 3 rfl 1 rfl ?_
  refine v_rdV X hM.C h_mo.1 (c_X10_isCase l E b mo co k hO hR gk) kvX10_isCase kiX10_isCase kl_X10_92 rfl rfl (As := [.int (zI k)]) rfl rfl rfl dX10_ofCase_3 6 rfl ?_
  show V p l e (rmL 2 0 0) s m args below meth cd Q 3 s.heap [] 0 0 6 [(0, .ref b), (1, .int (zI k)), (2, .int (zI 2))] [.int (zI (bz (0 ≤ k ∧ k < co 0 0))), .ref b]
  refine V_S (st' := [.int (zI 0), .ref b]) (by rw [bz_f (φ := 0 ≤ k ∧ k < co 0 0) (by first | omega | assumption)]) ?_
  refine v_muV X hM (h_mo.1) (c_X10_isFine_0 l E b mo) kvX10_isFine kiX10_isFine kl_X10_124 (q0 := 0) rfl rfl (As := [.int (zI 0)]) rfl rfl rfl dX10_ofCase_6 9 rfl (k' := 0) (n' := 0) rfl rfl (fsI (fun q q1 q2 => (Or.inl (fsH (by omega) (by omega))))) h_mo (fun rv H1 lo1 hM hF hpo => ?_)
  obtain ⟨rfl, hw_0⟩ := hpo
  have h_mo : PR E b (modelW E b (updC mo 0 (updZ (mo 0) 0 1))) H1 := hw_0
  show V p l e (rmL 2 0 0) s m args below meth cd Q 3 H1 lo1 0 0 9 [(0, .ref b), (1, .int (zI k)), (2, .int (zI 2))] [.int (zI 0)]
  refine v_if_eq X (by omega) dX10_ofCase_9 12 21 rfl (by decide) (fun c_2 => ?_) (fun c_2 => ?_)
  · skip
    refine v_iconst X dX10_ofCase_21 22 rfl ?_
    subst hQ; exact m_iret X hr hlk hM dX10_ofCase_22 rfl ⟨rfl, h_mo⟩
  · skip
    exfalso; omega
set_option maxHeartbeats 4000000 in
set_option maxRecDepth 20000 in
theorem c_X10_ofCase_c3 (l : Launch) (E : Nat → Nat → Nat) (b : Nat) (mo : Nat → Int → Int) (co : Nat → Int → Int) (k : Int) (hO : OkC co) (hR : RelC co (mo 1)) (gk : Rg k) (p0 : 0 ≤ k ∧ k < co 0 0) : Mu l yX10_ofCase cX10_ofCase 3 (some .int) 2 0 0 E [(b, 5)] [.ref b, .int (zI k), .int (zI 3)] (fun H => PR E b (modelW E b mo) H) (fun rv H => rv = some (.int (zI (co 4 k))) ∧ PR E b (modelW E b (updC mo 0 (updZ (mo 0) 0 0))) H) := by
  refine Mu.start (own := RX10) rfl (by decide +kernel) (Nat.le_of_ble_eq_true rfl) ?_
  intro p e s m below meth cd args Q hQ X hr hlk hnm hM hPr
  have h_mo := hPr
  have hb0 := hO.b0
  have hbw := hO.bw
  have hr0 := hR.s0
  have hr1 := hR.s1
  refine v_aload_n X dX10_ofCase_0 1 rfl 0 rfl ?_
  refine v_aload_n X dX10_ofCase_1 2 rfl 0 rfl ?_
  refine v_iload_n X dX10_ofCase_2 3 rfl 1 rfl ?_
  refine v_rdV X hM.C h_mo.1 (c_X10_isCase l E b mo co k hO hR gk) kvX10_isCase kiX10_isCase kl_X10_92 rfl rfl (As := [.int (zI k)]) rfl rfl rfl dX10_ofCase_3 6 rfl ?_
  show V p l e (rmL 2 0 0) s m args below meth cd Q 3 s.heap [] 0 0 6 [(0, .ref b), (1, .int (zI k)), (2, .int (zI 3))] [.int (zI (bz (0 ≤ k ∧ k < co 0 0))), .ref b]
  refine V_S (st' := [.int (zI 1), .ref b]) (by rw [bz_t (φ := 0 ≤ k ∧ k < co 0 0) (by first | omega | assumption)]) ?_
  refine v_muV X hM (h_mo.1) (c_X10_isFine_1 l E b mo) kvX10_isFine kiX10_isFine kl_X10_124 (q0 := 0) rfl rfl (As := [.int (zI 1)]) rfl rfl rfl dX10_ofCase_6 9 rfl (k' := 0) (n' := 0) rfl rfl (fsI (fun q q1 q2 => (Or.inl (fsH (by omega) (by omega))))) h_mo (fun rv H1 lo1 hM hF hpo => ?_)
  obtain ⟨rfl, hw_0⟩ := hpo
  have h_mo : PR E b (modelW E b (updC mo 0 (updZ (mo 0) 0 0))) H1 := hw_0
  show V p l e (rmL 2 0 0) s m args below meth cd Q 3 H1 lo1 0 0 9 [(0, .ref b), (1, .int (zI k)), (2, .int (zI 3))] [.int (zI 1)]
  refine v_if_eq X (by omega) dX10_ofCase_9 12 21 rfl (by decide) (fun c_2 => ?_) (fun c_2 => ?_)
  · skip
    exfalso; omega
  · skip
    refine v_aload_n X dX10_ofCase_12 13 rfl 0 rfl ?_
    refine v_iload_n X dX10_ofCase_13 14 rfl 1 rfl ?_
    refine v_iload_n X dX10_ofCase_14 15 rfl 2 rfl ?_
    have hb_3 := hO.b0
    refine v_rdV X hM.C h_mo.1 (c_X10_c_3 l E b (updC mo 0 (updZ (mo 0) 0 0)) co k hO hR (by omega) (by omega)) kvX10_c kiX10_c kl_X10_47 rfl rfl (As := [.int (zI k), .int (zI 3)]) rfl rfl rfl dX10_ofCase_15 18 rfl ?_
    show V p l e (rmL 2 0 0) s m args below meth cd Q 3 H1 lo1 0 0 18 [(0, .ref b), (1, .int (zI k)), (2, .int (zI 3))] [.int (zI (co 4 k))]
    have hb_4 := hO.b4 k
    refine v_goto X dX10_ofCase_18 22 (by decide) ?_
    subst hQ; exact m_iret X hr hlk hM dX10_ofCase_22 rfl ⟨rfl, h_mo⟩
set_option maxHeartbeats 4000000 in
set_option maxRecDepth 20000 in
theorem c_X10_ofCase_c3_0 (l : Launch) (E : Nat → Nat → Nat) (b : Nat) (mo : Nat → Int → Int) (co : Nat → Int → Int) (k : Int) (hO : OkC co) (hR : RelC co (mo 1)) (gk : Rg k) (nk : ¬ (0 ≤ k ∧ k < co 0 0)) : Mu l yX10_ofCase cX10_ofCase 3 (some .int) 2 0 0 E [(b, 5)] [.ref b, .int (zI k), .int (zI 3)] (fun H => PR E b (modelW E b mo) H) (fun rv H => rv = some (.int (zI 0)) ∧ PR E b (modelW E b (updC mo 0 (updZ (mo 0) 0 1))) H) := by
  refine Mu.start (own := RX10) rfl (by decide +kernel) (Nat.le_of_ble_eq_true rfl) ?_
  intro p e s m below meth cd args Q hQ X hr hlk hnm hM hPr
  have h_mo := hPr
  have hb0 := hO.b0
  have hbw := hO.bw
  have hr0 := hR.s0
  have hr1 := hR.s1
  refine v_aload_n X dX10_ofCase_0 1 rfl 0 rfl ?_
  refine v_aload_n X dX10_ofCase_1 2 rfl 0 rfl ?_
  refine v_iload_n X dX10_ofCase_2 3 rfl 1 rfl ?_
  refine v_rdV X hM.C h_mo.1 (c_X10_isCase l E b mo co k hO hR gk) kvX10_isCase kiX10_isCase kl_X10_92 rfl rfl (As := [.int (zI k)]) rfl rfl rfl dX10_ofCase_3 6 rfl ?_
  show V p l e (rmL 2 0 0) s m args below meth cd Q 3 s.heap [] 0 0 6 [(0, .ref b), (1, .int (zI k)), (2, .int (zI 3))] [.int (zI (bz (0 ≤ k ∧ k < co 0 0))), .ref b]
  refine V_S (st' := [.int (zI 0), .ref b]) (by rw [bz_f (φ := 0 ≤ k ∧ k < co 0 0) (by first | omega | assumption)]) ?_
  refine v_muV X hM (h_mo.1) (c_X10_isFine_0 l E b mo) kvX10_isFine kiX10_isFine kl_X10_124 (q0 := 0) rfl rfl (As := [.int (zI 0)]) rfl rfl rfl dX10_ofCase_6 9 rfl (k' := 0) (n' := 0) rfl rfl (fsI (fun q q1 q2 => (Or.inl (fsH (by omega) (by omega))))) h_mo (fun rv H1 lo1 hM hF hpo => ?_)
  obtain ⟨rfl, hw_0⟩ := hpo
  have h_mo : PR E b (modelW E b (updC mo 0 (updZ (mo 0) 0 1))) H1 := hw_0
  show V p l e (rmL 2 0 0) s m args below meth cd Q 3 H1 lo1 0 0 9 [(0, .ref b), (1, .int (zI k)), (2, .int (zI 3))] [.int (zI 0)]
  refine v_if_eq X (by omega) dX10_ofCase_9 12 21 rfl (by decide) (fun c_2 => ?_) (fun c_2 => ?_)
  · skip
    refine v_iconst X dX10_ofCase_21 22 rfl ?_
    subst hQ; exact m_iret X hr hlk hM dX10_ofCase_22 rfl ⟨rfl, h_mo⟩
  · skip
    exfalso; omega
set_option maxHeartbeats 4000000 in
set_option maxRecDepth 20000 in
theorem c_X10_ofCase_c4 (l : Launch) (E : Nat → Nat → Nat) (b : Nat) (mo : Nat → Int → Int) (co : Nat → Int → Int) (k : Int) (hO : OkC co) (hR : RelC co (mo 1)) (gk : Rg k) (p0 : 0 ≤ k ∧ k < co 0 0) : Mu l yX10_ofCase cX10_ofCase 3 (some .int) 2 0 0 E [(b, 5)] [.ref b, .int (zI k), .int (zI 4)] (fun H => PR E b (modelW E b mo) H) (fun rv H => rv = some (.int (zI (co 5 k))) ∧ PR E b (modelW E b (updC mo 0 (updZ (mo 0) 0 0))) H) := by
  refine Mu.start (own := RX10) rfl (by decide +kernel) (Nat.le_of_ble_eq_true rfl) ?_
  intro p e s m below meth cd args Q hQ X hr hlk hnm hM hPr
  have h_mo := hPr
  have hb0 := hO.b0
  have hbw := hO.bw
  have hr0 := hR.s0
  have hr1 := hR.s1
  refine v_aload_n X dX10_ofCase_0 1 rfl 0 rfl ?_
  refine v_aload_n X dX10_ofCase_1 2 rfl 0 rfl ?_
  refine v_iload_n X dX10_ofCase_2 3 rfl 1 rfl ?_
  refine v_rdV X hM.C h_mo.1 (c_X10_isCase l E b mo co k hO hR gk) kvX10_isCase kiX10_isCase kl_X10_92 rfl rfl (As := [.int (zI k)]) rfl rfl rfl dX10_ofCase_3 6 rfl ?_
  show V p l e (rmL 2 0 0) s m args below meth cd Q 3 s.heap [] 0 0 6 [(0, .ref b), (1, .int (zI k)), (2, .int (zI 4))] [.int (zI (bz (0 ≤ k ∧ k < co 0 0))), .ref b]
  refine V_S (st' := [.int (zI 1), .ref b]) (by rw [bz_t (φ := 0 ≤ k ∧ k < co 0 0) (by first | omega | assumption)]) ?_
  refine v_muV X hM (h_mo.1) (c_X10_isFine_1 l E b mo) kvX10_isFine kiX10_isFine kl_X10_124 (q0 := 0) rfl rfl (As := [.int (zI 1)]) rfl rfl rfl dX10_ofCase_6 9 rfl (k' := 0) (n' := 0) rfl rfl (fsI (fun q q1 q2 => (Or.inl (fsH (by omega) (by omega))))) h_mo (fun rv H1 lo1 hM hF hpo => ?_)
  obtain ⟨rfl, hw_0⟩ := hpo
  have h_mo : PR E b (modelW E b (updC mo 0 (updZ (mo 0) 0 0))) H1 := hw_0
  show V p l e (rmL 2 0 0) s m args below meth cd Q 3 H1 lo1 0 0 9 [(0, .ref b), (1, .int (zI k)), (2, .int (zI 4))] [.int (zI 1)]
  refine v_if_eq X (by omega) dX10_ofCase_9 12 21 rfl (by decide) (fun c_2 => ?_) (fun c_2 => ?_)
  · skip
    exfalso; omega
  · skip
    refine v_aload_n X dX10_ofCase_12 13 rfl 0 rfl ?_
    refine v_iload_n X dX10_ofCase_13 14 rfl 1 rfl ?_
    refine v_iload_n X dX10_ofCase_14 15 rfl 2 rfl ?_
    have hb_3 := hO.b0
    refine v_rdV X hM.C h_mo.1 (c_X10_c_4 l E b (updC mo 0 (updZ (mo 0) 0 0)) co k hO hR (by omega) (by omega)) kvX10_c kiX10_c kl_X10_47 rfl rfl (As := [.int (zI k), .int (zI 4)]) rfl rfl rfl dX10_ofCase_15 18 rfl ?_
    show V p l e (rmL 2 0 0) s m args below meth cd Q 3 H1 lo1 0 0 18 [(0, .ref b), (1, .int (zI k)), (2, .int (zI 4))] [.int (zI (co 5 k))]
    have hb_4 := hO.b5 k
    refine v_goto X dX10_ofCase_18 22 (by decide) ?_
    subst hQ; exact m_iret X hr hlk hM dX10_ofCase_22 rfl ⟨rfl, h_mo⟩
set_option maxHeartbeats 4000000 in
set_option maxRecDepth 20000 in
theorem c_X10_ofCase_c4_0 (l : Launch) (E : Nat → Nat → Nat) (b : Nat) (mo : Nat → Int → Int) (co : Nat → Int → Int) (k : Int) (hO : OkC co) (hR : RelC co (mo 1)) (gk : Rg k) (nk : ¬ (0 ≤ k ∧ k < co 0 0)) : Mu l yX10_ofCase cX10_ofCase 3 (some .int) 2 0 0 E [(b, 5)] [.ref b, .int (zI k), .int (zI 4)] (fun H => PR E b (modelW E b mo) H) (fun rv H => rv = some (.int (zI 0)) ∧ PR E b (modelW E b (updC mo 0 (updZ (mo 0) 0 1))) H) := by
  refine Mu.start (own := RX10) rfl (by decide +kernel) (Nat.le_of_ble_eq_true rfl) ?_
  intro p e s m below meth cd args Q hQ X hr hlk hnm hM hPr
  have h_mo := hPr
  have hb0 := hO.b0
  have hbw := hO.bw
  have hr0 := hR.s0
  have hr1 := hR.s1
  refine v_aload_n X dX10_ofCase_0 1 rfl 0 rfl ?_
  refine v_aload_n X dX10_ofCase_1 2 rfl 0 rfl ?_
  refine v_iload_n X dX10_ofCase_2 3 rfl 1 rfl ?_
  refine v_rdV X hM.C h_mo.1 (c_X10_isCase l E b mo co k hO hR gk) kvX10_isCase kiX10_isCase kl_X10_92 rfl rfl (As := [.int (zI k)]) rfl rfl rfl dX10_ofCase_3 6 rfl ?_
  show V p l e (rmL 2 0 0) s m args below meth cd Q 3 s.heap [] 0 0 6 [(0, .ref b), (1, .int (zI k)), (2, .int (zI 4))] [.int (zI (bz (0 ≤ k ∧ k < co 0 0))), .ref b]
  refine V_S (st' := [.int (zI 0), .ref b]) (by rw [bz_f (φ := 0 ≤ k ∧ k < co 0 0) (by first | omega | assumption)]) ?_
  refine v_muV X hM (h_mo.1) (c_X10_isFine_0 l E b mo) kvX10_isFine kiX10_isFine kl_X10_124 (q0 := 0) rfl rfl (As := [.int (zI 0)]) rfl rfl rfl dX10_ofCase_6 9 rfl (k' := 0) (n' := 0) rfl rfl (fsI (fun q q1 q2 => (Or.inl (fsH (by omega) (by omega))))) h_mo (fun rv H1 lo1 hM hF hpo => ?_)
  obtain ⟨rfl, hw_0⟩ := hpo
  have h_mo : PR E b (modelW E b (updC mo 0 (updZ (mo 0) 0 1))) H1 := hw_0
  show V p l e (rmL 2 0 0) s m args below meth cd Q 3 H1 lo1 0 0 9 [(0, .ref b), (1, .int (zI k)), (2, .int (zI 4))] [.int (zI 0)]
  refine v_if_eq X (by omega) dX10_ofCase_9 12 21 rfl (by decide) (fun c_2 => ?_) (fun c_2 => ?_)
  · skip
    refine v_iconst X dX10_ofCase_21 22 rfl ?_
    subst hQ; exact m_iret X hr hlk hM dX10_ofCase_22 rfl ⟨rfl, h_mo⟩
  · skip
    exfalso; omega
set_option maxHeartbeats 4000000 in
set_option maxRecDepth 20000 in
theorem c_X10_ofCase_c5 (l : Launch) (E : Nat → Nat → Nat) (b : Nat) (mo : Nat → Int → Int) (co : Nat → Int → Int) (k : Int) (hO : OkC co) (hR : RelC co (mo 1)) (gk : Rg k) (p0 : 0 ≤ k ∧ k < co 0 0) : Mu l yX10_ofCase cX10_ofCase 3 (some .int) 2 0 0 E [(b, 5)] [.ref b, .int (zI k), .int (zI 5)] (fun H => PR E b (modelW E b mo) H) (fun rv H => rv = some (.int (zI (co 6 k))) ∧ PR E b (modelW E b (updC mo 0 (updZ (mo 0) 0 0))) H) := by
  refine Mu.start (own := RX10) rfl (by decide +kernel) (Nat.le_of_ble_eq_true rfl) ?_
  intro p e s m below meth cd args Q hQ X hr hlk hnm hM hPr
  have h_mo := hPr
  have hb0 := hO.b0
  have hbw := hO.bw
  have hr0 := hR.s0
  have hr1 := hR.s1
  refine v_aload_n X dX10_ofCase_0 1 rfl 0 rfl ?_
  refine v_aload_n X dX10_ofCase_1 2 rfl 0 rfl ?_
  refine v_iload_n X dX10_ofCase_2 3 rfl 1 rfl ?_
  refine v_rdV X hM.C h_mo.1 (c_X10_isCase l E b mo co k hO hR gk) kvX10_isCase kiX10_isCase kl_X10_92 rfl rfl (As := [.int (zI k)]) rfl rfl rfl dX10_ofCase_3 6 rfl ?_
  show V p l e (rmL 2 0 0) s m args below meth cd Q 3 s.heap [] 0 0 6 [(0, .ref b), (1, .int (zI k)), (2, .int (zI 5))] [.int (zI (bz (0 ≤ k ∧ k < co 0 0))), .ref b]
  refine V_S (st' := [.int (zI 1), .ref b]) (by rw [bz_t (φ := 0 ≤ k ∧ k < co 0 0) (by first | omega | assumption)]) ?_
  refine v_muV X hM (h_mo.1) (c_X10_isFine_1 l E b mo) kvX10_isFine kiX10_isFine kl_X10_124 (q0 := 0) rfl rfl (As := [.int (zI 1)]) rfl rfl rfl dX10_ofCase_6 9 rfl (k' := 0) (n' := 0) rfl rfl (fsI (fun q q1 q2 => (Or.inl (fsH (by omega) (by omega))))) h_mo (fun rv H1 lo1 hM hF hpo => ?_)
  obtain ⟨rfl, hw_0⟩ := hpo
  have h_mo : PR E b (modelW E b (updC mo 0 (updZ (mo 0) 0 0))) H1 := hw_0
  show V p l e (rmL 2 0 0) s m args below meth cd Q 3 H1 lo1 0 0 9 [(0, .ref b), (1, .int (zI k)), (2, .int (zI 5))] [.int (zI 1)]
  refine v_if_eq X (by omega) dX10_ofCase_9 12 21 rfl (by decide) (fun c_2 => ?_) (fun c_2 => ?_)
  · skip
    exfalso; omega
  · skip
    refine v_aload_n X dX10_ofCase_12 13 rfl 0 rfl ?_
    refine v_iload_n X dX10_ofCase_13 14 rfl 1 rfl ?_
    refine v_iload_n X dX10_ofCase_14 15 rfl 2 rfl ?_
    have hb_3 := hO.b0
    refine v_rdV X hM.C h_mo.1 (c_X10_c_5 l E b (updC mo 0 (updZ (mo 0) 0 0)) co k hO hR (by omega) (by omega)) kvX10_c kiX10_c kl_X10_47 rfl rfl (As := [.int (zI k), .int (zI 5)]) rfl rfl rfl dX10_ofCase_15 18 rfl ?_
    show V p l e (rmL 2 0 0) s m args below meth cd Q 3 H1 lo1 0 0 18 [(0, .ref b), (1, .int (zI k)), (2, .int (zI 5))] [.int (zI (co 6 k))]
    have hb_4 := hO.b6 k
    refine v_goto X dX10_ofCase_18 22 (by decide) ?_
    subst hQ; exact m_iret X hr hlk hM dX10_ofCase_22 rfl ⟨rfl, h_mo⟩
set_option maxHeartbeats 4000000 in
set_option maxRecDepth 20000 in
theorem c_X10_ofCase_c5_0 (l : Launch) (E : Nat → Nat → Nat) (b : Nat) (mo : Nat → Int → Int) (co : Nat → Int → Int) (k : Int) (hO : OkC co) (hR : RelC co (mo 1)) (gk : Rg k) (nk : ¬ (0 ≤ k ∧ k < co 0 0)) : Mu l yX10_ofCase cX10_ofCase 3 (some .int) 2 0 0 E [(b, 5)] [.ref b, .int (zI k), .int (zI 5)] (fun H => PR E b (modelW E b mo) H) (fun rv H => rv = some (.int (zI 0)) ∧ PR E b (modelW E b (updC mo 0 (updZ (mo 0) 0 1))) H) := by
  refine Mu.start (own := RX10) rfl (by decide +kernel) (Nat.le_of_ble_eq_true rfl) ?_
  intro p e s m below meth cd args Q hQ X hr hlk hnm hM hPr
  have h_mo := hPr
  have hb0 := hO.b0
  have hbw := hO.bw
  have hr0 := hR.s0
  have hr1 := hR.s1
  refine v_aload_n X dX10_ofCase_0 1 rfl 0 rfl ?_
  refine v_aload_n X dX10_ofCase_1 2 rfl 0 rfl ?_
  refine v_iload_n X dX10_ofCase_2 3 rfl 1 rfl ?_
  refine v_rdV X hM.C h_mo.1 (c_X10_isCase l E b mo co k hO hR gk) kvX10_isCase kiX10_isCase kl_X10_92 rfl rfl (As := [.int (zI k)]) rfl rfl rfl dX10_ofCase_3 6 rfl ?_
  show V p l e (rmL 2 0 0) s m args below meth cd Q 3 s.heap [] 0 0 6 [(0, .ref b), (1, .int (zI k)), (2, .int (zI 5))] [.int (zI (bz (0 ≤ k ∧ k < co 0 0))), .ref b]
  refine V_S (st' := [.int (zI 0), .ref b]) (by rw [bz_f (φ := 0 ≤ k ∧ k < co 0 0) (by first | omega | assumption)]) ?_
  refine v_muV X hM (h_mo.1) (c_X10_isFine_0 l E b mo) kvX10_isFine kiX10_isFine kl_X10_124 (q0 := 0) rfl rfl (As := [.int (zI 0)]) rfl rfl rfl dX10_ofCase_6 9 rfl (k' := 0) (n' := 0) rfl rfl (fsI (fun q q1 q2 => (Or.inl (fsH (by omega) (by omega))))) h_mo (fun rv H1 lo1 hM hF hpo => ?_)
  obtain ⟨rfl, hw_0⟩ := hpo
  have h_mo : PR E b (modelW E b (updC mo 0 (updZ (mo 0) 0 1))) H1 := hw_0
  show V p l e (rmL 2 0 0) s m args below meth cd Q 3 H1 lo1 0 0 9 [(0, .ref b), (1, .int (zI k)), (2, .int (zI 5))] [.int (zI 0)]
  refine v_if_eq X (by omega) dX10_ofCase_9 12 21 rfl (by decide) (fun c_2 => ?_) (fun c_2 => ?_)
  · skip
    refine v_iconst X dX10_ofCase_21 22 rfl ?_
    subst hQ; exact m_iret X hr hlk hM dX10_ofCase_22 rfl ⟨rfl, h_mo⟩
  · skip
    exfalso; omega
set_option maxHeartbeats 4000000 in
set_option maxRecDepth 20000 in
theorem c_X10_caseCount (l : Launch) (E : Nat → Nat → Nat) (b : Nat) (mo : Nat → Int → Int) (co : Nat → Int → Int) (hO : OkC co) (hR : RelC co (mo 1)) : Mu l yX10_caseCount cX10_caseCount 1 (some .int) 0 0 0 E [(b, 5)] [.ref b] (fun H => PR E b (modelW E b mo) H) (fun rv H => rv = some (.int (zI (co 0 0))) ∧ PR E b (modelW E b (updC mo 0 (updZ (mo 0) 0 0))) H) := by
  refine Mu.start (own := RX10) rfl (by decide +kernel) (Nat.le_of_ble_eq_true rfl) ?_
  intro p e s m below meth cd args Q hQ X hr hlk hnm hM hPr
  have h_mo := hPr
  have hb0 := hO.b0
  have hbw := hO.bw
  have hr0 := hR.s0
  have hr1 := hR.s1
  refine v_aload_n X dX10_caseCount_0 1 rfl 0 rfl ?_
  refine v_iconst X dX10_caseCount_1 2 rfl ?_
  refine v_putf X hM h_mo ftX10 0 rfl rfl 0 (by decide) kf_X10_30 (fun _ h => h) rfl rfl rfl (Nat.le_of_ble_eq_true rfl) (Or.inl (fsH (by omega) (by omega))) dX10_caseCount_2 5 rfl (ws' := modelW E b (updC mo 0 (updZ (mo 0) 0 0))) rfl (fun H1 lo1 hzz hM hF h_mo => ?_)
  clear hzz
  refine v_aload_n X dX10_caseCount_5 6 rfl 0 rfl ?_
  refine v_getf X hM.C h_mo.1 inX10 0 rfl rfl 1 (by decide) kf_X10_9 (fun _ h => h) rfl dX10_caseCount_6 9 rfl ?_
  refine v_iconst X dX10_caseCount_9 10 rfl ?_
  refine v_iald X hM.C h_mo.1 1 rfl (by omega) (by omega) (by omega) dX10_caseCount_10 11 rfl ?_
  subst hQ; exact m_iret X hr hlk hM dX10_caseCount_11 rfl ⟨(sv (by first | exact hR.s0.symm | exact hR.s1.symm | exact hR.s2.symm | exact hR.s3.symm)), h_mo⟩
set_option maxHeartbeats 4000000 in
set_option maxRecDepth 20000 in
theorem c_X10_witnessCount (l : Launch) (E : Nat → Nat → Nat) (b : Nat) (mo : Nat → Int → Int) (co : Nat → Int → Int) (hO : OkC co) (hR : RelC co (mo 1)) : Mu l yX10_witnessCount cX10_witnessCount 1 (some .int) 0 0 0 E [(b, 5)] [.ref b] (fun H => PR E b (modelW E b mo) H) (fun rv H => rv = some (.int (zI (co 0 1))) ∧ PR E b (modelW E b (updC mo 0 (updZ (mo 0) 0 0))) H) := by
  refine Mu.start (own := RX10) rfl (by decide +kernel) (Nat.le_of_ble_eq_true rfl) ?_
  intro p e s m below meth cd args Q hQ X hr hlk hnm hM hPr
  have h_mo := hPr
  have hb0 := hO.b0
  have hbw := hO.bw
  have hr0 := hR.s0
  have hr1 := hR.s1
  refine v_aload_n X dX10_witnessCount_0 1 rfl 0 rfl ?_
  refine v_iconst X dX10_witnessCount_1 2 rfl ?_
  refine v_putf X hM h_mo ftX10 0 rfl rfl 0 (by decide) kf_X10_30 (fun _ h => h) rfl rfl rfl (Nat.le_of_ble_eq_true rfl) (Or.inl (fsH (by omega) (by omega))) dX10_witnessCount_2 5 rfl (ws' := modelW E b (updC mo 0 (updZ (mo 0) 0 0))) rfl (fun H1 lo1 hzz hM hF h_mo => ?_)
  clear hzz
  refine v_aload_n X dX10_witnessCount_5 6 rfl 0 rfl ?_
  refine v_getf X hM.C h_mo.1 inX10 0 rfl rfl 1 (by decide) kf_X10_9 (fun _ h => h) rfl dX10_witnessCount_6 9 rfl ?_
  refine v_iconst X dX10_witnessCount_9 10 rfl ?_
  refine v_iald X hM.C h_mo.1 1 rfl (by omega) (by omega) (by omega) dX10_witnessCount_10 11 rfl ?_
  subst hQ; exact m_iret X hr hlk hM dX10_witnessCount_11 rfl ⟨(sv (by first | exact hR.s0.symm | exact hR.s1.symm | exact hR.s2.symm | exact hR.s3.symm)), h_mo⟩
set_option maxHeartbeats 4000000 in
set_option maxRecDepth 20000 in
theorem c_X10_decisionCount (l : Launch) (E : Nat → Nat → Nat) (b : Nat) (mo : Nat → Int → Int) (co : Nat → Int → Int) (hO : OkC co) (hR : RelC co (mo 1)) : Mu l yX10_decisionCount cX10_decisionCount 1 (some .int) 0 0 0 E [(b, 5)] [.ref b] (fun H => PR E b (modelW E b mo) H) (fun rv H => rv = some (.int (zI (co 0 2))) ∧ PR E b (modelW E b (updC mo 0 (updZ (mo 0) 0 0))) H) := by
  refine Mu.start (own := RX10) rfl (by decide +kernel) (Nat.le_of_ble_eq_true rfl) ?_
  intro p e s m below meth cd args Q hQ X hr hlk hnm hM hPr
  have h_mo := hPr
  have hb0 := hO.b0
  have hbw := hO.bw
  have hr0 := hR.s0
  have hr1 := hR.s1
  refine v_aload_n X dX10_decisionCount_0 1 rfl 0 rfl ?_
  refine v_iconst X dX10_decisionCount_1 2 rfl ?_
  refine v_putf X hM h_mo ftX10 0 rfl rfl 0 (by decide) kf_X10_30 (fun _ h => h) rfl rfl rfl (Nat.le_of_ble_eq_true rfl) (Or.inl (fsH (by omega) (by omega))) dX10_decisionCount_2 5 rfl (ws' := modelW E b (updC mo 0 (updZ (mo 0) 0 0))) rfl (fun H1 lo1 hzz hM hF h_mo => ?_)
  clear hzz
  refine v_aload_n X dX10_decisionCount_5 6 rfl 0 rfl ?_
  refine v_getf X hM.C h_mo.1 inX10 0 rfl rfl 1 (by decide) kf_X10_9 (fun _ h => h) rfl dX10_decisionCount_6 9 rfl ?_
  refine v_iconst X dX10_decisionCount_9 10 rfl ?_
  refine v_iald X hM.C h_mo.1 1 rfl (by omega) (by omega) (by omega) dX10_decisionCount_10 11 rfl ?_
  subst hQ; exact m_iret X hr hlk hM dX10_decisionCount_11 rfl ⟨(sv (by first | exact hR.s0.symm | exact hR.s1.symm | exact hR.s2.symm | exact hR.s3.symm)), h_mo⟩
set_option maxHeartbeats 4000000 in
set_option maxRecDepth 20000 in
theorem c_X10_questionTotal (l : Launch) (E : Nat → Nat → Nat) (b : Nat) (mo : Nat → Int → Int) (co : Nat → Int → Int) (hO : OkC co) (hR : RelC co (mo 1)) : Mu l yX10_questionTotal cX10_questionTotal 1 (some .int) 0 0 0 E [(b, 5)] [.ref b] (fun H => PR E b (modelW E b mo) H) (fun rv H => rv = some (.int (zI (co 0 3))) ∧ PR E b (modelW E b (updC mo 0 (updZ (mo 0) 0 0))) H) := by
  refine Mu.start (own := RX10) rfl (by decide +kernel) (Nat.le_of_ble_eq_true rfl) ?_
  intro p e s m below meth cd args Q hQ X hr hlk hnm hM hPr
  have h_mo := hPr
  have hb0 := hO.b0
  have hbw := hO.bw
  have hr0 := hR.s0
  have hr1 := hR.s1
  refine v_aload_n X dX10_questionTotal_0 1 rfl 0 rfl ?_
  refine v_iconst X dX10_questionTotal_1 2 rfl ?_
  refine v_putf X hM h_mo ftX10 0 rfl rfl 0 (by decide) kf_X10_30 (fun _ h => h) rfl rfl rfl (Nat.le_of_ble_eq_true rfl) (Or.inl (fsH (by omega) (by omega))) dX10_questionTotal_2 5 rfl (ws' := modelW E b (updC mo 0 (updZ (mo 0) 0 0))) rfl (fun H1 lo1 hzz hM hF h_mo => ?_)
  clear hzz
  refine v_aload_n X dX10_questionTotal_5 6 rfl 0 rfl ?_
  refine v_getf X hM.C h_mo.1 inX10 0 rfl rfl 1 (by decide) kf_X10_9 (fun _ h => h) rfl dX10_questionTotal_6 9 rfl ?_
  refine v_iconst X dX10_questionTotal_9 10 rfl ?_
  refine v_iald X hM.C h_mo.1 1 rfl (by omega) (by omega) (by omega) dX10_questionTotal_10 11 rfl ?_
  subst hQ; exact m_iret X hr hlk hM dX10_questionTotal_11 rfl ⟨(sv (by first | exact hR.s0.symm | exact hR.s1.symm | exact hR.s2.symm | exact hR.s3.symm)), h_mo⟩
set_option maxHeartbeats 4000000 in
set_option maxRecDepth 20000 in
theorem c_X10_caseOf (l : Launch) (E : Nat → Nat → Nat) (b : Nat) (mo : Nat → Int → Int) (co : Nat → Int → Int) (d : Int) (o : Int) (hO : OkC co) (hR : RelC co (mo 1)) (gd : Rg d) (go : Rg o) (p0 : (0 ≤ d ∧ d < 6) ∧ (0 ≤ o ∧ o < 5)) (p1 : 0 ≤ firstZ (fun j => co 1 j = d ∧ co 2 j = o) (co 0 0).toNat) : Mu l yX10_caseOf cX10_caseOf 4 (some .int) 2 0 0 E [(b, 5)] [.ref b, .int (zI d), .int (zI o)] (fun H => PR E b (modelW E b mo) H) (fun rv H => (rv = some (.int (zI (firstZ (fun j => co 1 j = d ∧ co 2 j = o) (co 0 0).toNat)))) ∧ PR E b (modelW E b (updC mo 0 (updZ (mo 0) 0 0))) H) := by
  refine Mu.start (own := RX10) rfl (by decide +kernel) (Nat.le_of_ble_eq_true rfl) ?_
  intro p e s m below meth cd args Q hQ X hr hlk hnm hM hPr
  have h_mo := hPr
  have hb0 := hO.b0
  have hbw := hO.bw
  have hr0 := hR.s0
  have hr1 := hR.s1
  refine v_aload_n X dX10_caseOf_0 1 rfl 0 rfl ?_
  refine v_iload_n X dX10_caseOf_1 2 rfl 1 rfl ?_
  refine v_iload_n X dX10_caseOf_2 3 rfl 2 rfl ?_
  refine v_rdV X hM.C h_mo.1 (c_X10_findCase l E b mo co d o hO hR gd go) kvX10_findCase kiX10_findCase kl_X10_72 rfl rfl (As := [.int (zI d), .int (zI o)]) rfl rfl rfl dX10_caseOf_3 6 rfl ?_
  show V p l e (rmL 2 0 0) s m args below meth cd Q 4 s.heap [] 0 0 6 [(0, .ref b), (1, .int (zI d)), (2, .int (zI o))] [.int (zI (firstZ (fun j => co 1 j = d ∧ co 2 j = o) (co 0 0).toNat))]
  have hb_1 := hO.b0
  have hf_2 := firstZ_b (fun j => co 1 j = d ∧ co 2 j = o) (co 0 0).toNat
  refine v_istore_n X dX10_caseOf_6 7 rfl rfl (by decide) (L' := [(3, .int (zI (firstZ (fun j => co 1 j = d ∧ co 2 j = o) (co 0 0).toNat))), (0, .ref b), (1, .int (zI d)), (2, .int (zI o))]) rfl ?_
  refine v_aload_n X dX10_caseOf_7 8 rfl 1 rfl ?_
  refine v_iload_n X dX10_caseOf_8 9 rfl 2 rfl ?_
  refine v_rdS X hM.C (ws0 E s.heap) (c_X10_isDefendant l E d gd) kvX10_isDefendant ksX10_isDefendant kl_X10_65 (As := [.int (zI d)]) rfl rfl rfl dX10_caseOf_9 12 rfl ?_
  show V p l e (rmL 2 0 0) s m args below meth cd Q 4 s.heap [] 0 0 12 [(3, .int (zI (firstZ (fun j => co 1 j = d ∧ co 2 j = o) (co 0 0).toNat))), (0, .ref b), (1, .int (zI d)), (2, .int (zI o))] [.int (zI (bz (0 ≤ d ∧ d < 6))), .ref b]
  refine v_bif_eq X dX10_caseOf_12 15 22 rfl (by decide) (fun c_3 => ?_) (fun c_3 => ?_)
  · skip
    exfalso; first | omega | contradiction
  · skip
    refine v_iload_n X dX10_caseOf_15 16 rfl 3 rfl ?_
    refine v_rdS X hM.C (ws0 E s.heap) (c_X10_isOffence l E o go) kvX10_isOffence ksX10_isOffence kl_X10_69 (As := [.int (zI o)]) rfl rfl rfl dX10_caseOf_16 19 rfl ?_
    show V p l e (rmL 2 0 0) s m args below meth cd Q 4 s.heap [] 0 0 19 [(3, .int (zI (firstZ (fun j => co 1 j = d ∧ co 2 j = o) (co 0 0).toNat))), (0, .ref b), (1, .int (zI d)), (2, .int (zI o))] [.int (zI (bz (0 ≤ o ∧ o < 5))), .ref b]
    refine v_bif_ne X dX10_caseOf_19 22 26 rfl (by decide) (fun c_4 => ?_) (fun c_4 => ?_)
    · skip
      refine v_iload_n X dX10_caseOf_26 27 rfl 0 rfl ?_
      refine v_if_ge X (by omega) dX10_caseOf_27 30 34 rfl (by decide) (fun c_5 => ?_) (fun c_5 => ?_)
      · skip
        refine v_iconst X dX10_caseOf_34 35 rfl ?_
        refine v_putf X hM h_mo ftX10 0 rfl rfl 0 (by decide) kf_X10_30 (fun _ h => h) rfl rfl rfl (Nat.le_of_ble_eq_true rfl) (Or.inl (fsH (by omega) (by omega))) dX10_caseOf_35 38 rfl (ws' := modelW E b (updC mo 0 (updZ (mo 0) 0 0))) rfl (fun H6 lo6 hzz hM hF h_mo => ?_)
        clear hzz
        refine v_aload_n X dX10_caseOf_38 39 rfl 1 rfl ?_
        refine v_getf X hM.C h_mo.1 inX10 0 rfl rfl 0 (by decide) kf_X10_30 (fun _ h => h) rfl dX10_caseOf_39 42 rfl ?_
        show V p l e (rmL 2 0 0) s m args below meth cd Q 4 H6 lo6 0 0 42 [(3, .int (zI (firstZ (fun j => co 1 j = d ∧ co 2 j = o) (co 0 0).toNat))), (0, .ref b), (1, .int (zI d)), (2, .int (zI o))] [.int (zI 0)]
        refine v_if_ne X (by omega) dX10_caseOf_42 45 49 rfl (by decide) (fun c_7 => ?_) (fun c_7 => ?_)
        · skip
          exfalso; omega
        · skip
          refine v_iload_n X dX10_caseOf_45 46 rfl 0 rfl ?_
          refine v_goto X dX10_caseOf_46 50 (by decide) ?_
          subst hQ; exact m_iret X hr hlk hM dX10_caseOf_50 rfl ⟨rfl, h_mo⟩
      · skip
        refine v_iconst X dX10_caseOf_30 31 rfl ?_
        refine v_goto X dX10_caseOf_31 35 (by decide) ?_
        refine v_putf X hM h_mo ftX10 0 rfl rfl 0 (by decide) kf_X10_30 (fun _ h => h) rfl rfl rfl (Nat.le_of_ble_eq_true rfl) (Or.inl (fsH (by omega) (by omega))) dX10_caseOf_35 38 rfl (ws' := modelW E b (updC mo 0 (updZ (mo 0) 0 2))) rfl (fun H8 lo8 hzz hM hF h_mo => ?_)
        clear hzz
        refine v_aload_n X dX10_caseOf_38 39 rfl 1 rfl ?_
        refine v_getf X hM.C h_mo.1 inX10 0 rfl rfl 0 (by decide) kf_X10_30 (fun _ h => h) rfl dX10_caseOf_39 42 rfl ?_
        show V p l e (rmL 2 0 0) s m args below meth cd Q 4 H8 lo8 0 0 42 [(3, .int (zI (firstZ (fun j => co 1 j = d ∧ co 2 j = o) (co 0 0).toNat))), (0, .ref b), (1, .int (zI d)), (2, .int (zI o))] [.int (zI 2)]
        refine v_if_ne X (by omega) dX10_caseOf_42 45 49 rfl (by decide) (fun c_9 => ?_) (fun c_9 => ?_)
        · skip
          refine v_iconst X dX10_caseOf_49 50 rfl ?_
          exfalso; omega
        · skip
          exfalso; omega
    · skip
      exfalso; first | omega | contradiction
set_option maxHeartbeats 4000000 in
set_option maxRecDepth 20000 in
theorem c_X10_caseOf_0 (l : Launch) (E : Nat → Nat → Nat) (b : Nat) (mo : Nat → Int → Int) (co : Nat → Int → Int) (d : Int) (o : Int) (hO : OkC co) (hR : RelC co (mo 1)) (gd : Rg d) (go : Rg o) (nk : ¬ ((0 ≤ d ∧ d < 6) ∧ (0 ≤ o ∧ o < 5))) : Mu l yX10_caseOf cX10_caseOf 4 (some .int) 2 0 0 E [(b, 5)] [.ref b, .int (zI d), .int (zI o)] (fun H => PR E b (modelW E b mo) H) (fun rv H => rv = some (.int (zI 0)) ∧ PR E b (modelW E b (updC mo 0 (updZ (mo 0) 0 1))) H) := by
  refine Mu.start (own := RX10) rfl (by decide +kernel) (Nat.le_of_ble_eq_true rfl) ?_
  intro p e s m below meth cd args Q hQ X hr hlk hnm hM hPr
  have h_mo := hPr
  have hb0 := hO.b0
  have hbw := hO.bw
  have hr0 := hR.s0
  have hr1 := hR.s1
  refine v_aload_n X dX10_caseOf_0 1 rfl 0 rfl ?_
  refine v_iload_n X dX10_caseOf_1 2 rfl 1 rfl ?_
  refine v_iload_n X dX10_caseOf_2 3 rfl 2 rfl ?_
  refine v_rdV X hM.C h_mo.1 (c_X10_findCase l E b mo co d o hO hR gd go) kvX10_findCase kiX10_findCase kl_X10_72 rfl rfl (As := [.int (zI d), .int (zI o)]) rfl rfl rfl dX10_caseOf_3 6 rfl ?_
  show V p l e (rmL 2 0 0) s m args below meth cd Q 4 s.heap [] 0 0 6 [(0, .ref b), (1, .int (zI d)), (2, .int (zI o))] [.int (zI (firstZ (fun j => co 1 j = d ∧ co 2 j = o) (co 0 0).toNat))]
  have hb_1 := hO.b0
  have hf_2 := firstZ_b (fun j => co 1 j = d ∧ co 2 j = o) (co 0 0).toNat
  refine v_istore_n X dX10_caseOf_6 7 rfl rfl (by decide) (L' := [(3, .int (zI (firstZ (fun j => co 1 j = d ∧ co 2 j = o) (co 0 0).toNat))), (0, .ref b), (1, .int (zI d)), (2, .int (zI o))]) rfl ?_
  refine v_aload_n X dX10_caseOf_7 8 rfl 1 rfl ?_
  refine v_iload_n X dX10_caseOf_8 9 rfl 2 rfl ?_
  refine v_rdS X hM.C (ws0 E s.heap) (c_X10_isDefendant l E d gd) kvX10_isDefendant ksX10_isDefendant kl_X10_65 (As := [.int (zI d)]) rfl rfl rfl dX10_caseOf_9 12 rfl ?_
  show V p l e (rmL 2 0 0) s m args below meth cd Q 4 s.heap [] 0 0 12 [(3, .int (zI (firstZ (fun j => co 1 j = d ∧ co 2 j = o) (co 0 0).toNat))), (0, .ref b), (1, .int (zI d)), (2, .int (zI o))] [.int (zI (bz (0 ≤ d ∧ d < 6))), .ref b]
  refine v_bif_eq X dX10_caseOf_12 15 22 rfl (by decide) (fun c_3 => ?_) (fun c_3 => ?_)
  · skip
    refine v_iconst X dX10_caseOf_22 23 rfl ?_
    refine v_goto X dX10_caseOf_23 35 (by decide) ?_
    refine v_putf X hM h_mo ftX10 0 rfl rfl 0 (by decide) kf_X10_30 (fun _ h => h) rfl rfl rfl (Nat.le_of_ble_eq_true rfl) (Or.inl (fsH (by omega) (by omega))) dX10_caseOf_35 38 rfl (ws' := modelW E b (updC mo 0 (updZ (mo 0) 0 1))) rfl (fun H4 lo4 hzz hM hF h_mo => ?_)
    clear hzz
    refine v_aload_n X dX10_caseOf_38 39 rfl 1 rfl ?_
    refine v_getf X hM.C h_mo.1 inX10 0 rfl rfl 0 (by decide) kf_X10_30 (fun _ h => h) rfl dX10_caseOf_39 42 rfl ?_
    show V p l e (rmL 2 0 0) s m args below meth cd Q 4 H4 lo4 0 0 42 [(3, .int (zI (firstZ (fun j => co 1 j = d ∧ co 2 j = o) (co 0 0).toNat))), (0, .ref b), (1, .int (zI d)), (2, .int (zI o))] [.int (zI 1)]
    refine v_if_ne X (by omega) dX10_caseOf_42 45 49 rfl (by decide) (fun c_5 => ?_) (fun c_5 => ?_)
    · skip
      refine v_iconst X dX10_caseOf_49 50 rfl ?_
      subst hQ; exact m_iret X hr hlk hM dX10_caseOf_50 rfl ⟨rfl, h_mo⟩
    · skip
      exfalso; omega
  · skip
    refine v_iload_n X dX10_caseOf_15 16 rfl 3 rfl ?_
    refine v_rdS X hM.C (ws0 E s.heap) (c_X10_isOffence l E o go) kvX10_isOffence ksX10_isOffence kl_X10_69 (As := [.int (zI o)]) rfl rfl rfl dX10_caseOf_16 19 rfl ?_
    show V p l e (rmL 2 0 0) s m args below meth cd Q 4 s.heap [] 0 0 19 [(3, .int (zI (firstZ (fun j => co 1 j = d ∧ co 2 j = o) (co 0 0).toNat))), (0, .ref b), (1, .int (zI d)), (2, .int (zI o))] [.int (zI (bz (0 ≤ o ∧ o < 5))), .ref b]
    refine v_bif_ne X dX10_caseOf_19 22 26 rfl (by decide) (fun c_6 => ?_) (fun c_6 => ?_)
    · skip
      refine v_iload_n X dX10_caseOf_26 27 rfl 0 rfl ?_
      refine v_if_ge X (by omega) dX10_caseOf_27 30 34 rfl (by decide) (fun c_7 => ?_) (fun c_7 => ?_)
      · skip
        refine v_iconst X dX10_caseOf_34 35 rfl ?_
        refine v_putf X hM h_mo ftX10 0 rfl rfl 0 (by decide) kf_X10_30 (fun _ h => h) rfl rfl rfl (Nat.le_of_ble_eq_true rfl) (Or.inl (fsH (by omega) (by omega))) dX10_caseOf_35 38 rfl (ws' := modelW E b (updC mo 0 (updZ (mo 0) 0 0))) rfl (fun H8 lo8 hzz hM hF h_mo => ?_)
        clear hzz
        refine v_aload_n X dX10_caseOf_38 39 rfl 1 rfl ?_
        refine v_getf X hM.C h_mo.1 inX10 0 rfl rfl 0 (by decide) kf_X10_30 (fun _ h => h) rfl dX10_caseOf_39 42 rfl ?_
        show V p l e (rmL 2 0 0) s m args below meth cd Q 4 H8 lo8 0 0 42 [(3, .int (zI (firstZ (fun j => co 1 j = d ∧ co 2 j = o) (co 0 0).toNat))), (0, .ref b), (1, .int (zI d)), (2, .int (zI o))] [.int (zI 0)]
        refine v_if_ne X (by omega) dX10_caseOf_42 45 49 rfl (by decide) (fun c_9 => ?_) (fun c_9 => ?_)
        · skip
          exfalso; omega
        · skip
          refine v_iload_n X dX10_caseOf_45 46 rfl 0 rfl ?_
          refine v_goto X dX10_caseOf_46 50 (by decide) ?_
          exfalso; omega
      · skip
        refine v_iconst X dX10_caseOf_30 31 rfl ?_
        refine v_goto X dX10_caseOf_31 35 (by decide) ?_
        refine v_putf X hM h_mo ftX10 0 rfl rfl 0 (by decide) kf_X10_30 (fun _ h => h) rfl rfl rfl (Nat.le_of_ble_eq_true rfl) (Or.inl (fsH (by omega) (by omega))) dX10_caseOf_35 38 rfl (ws' := modelW E b (updC mo 0 (updZ (mo 0) 0 2))) rfl (fun H10 lo10 hzz hM hF h_mo => ?_)
        clear hzz
        refine v_aload_n X dX10_caseOf_38 39 rfl 1 rfl ?_
        refine v_getf X hM.C h_mo.1 inX10 0 rfl rfl 0 (by decide) kf_X10_30 (fun _ h => h) rfl dX10_caseOf_39 42 rfl ?_
        show V p l e (rmL 2 0 0) s m args below meth cd Q 4 H10 lo10 0 0 42 [(3, .int (zI (firstZ (fun j => co 1 j = d ∧ co 2 j = o) (co 0 0).toNat))), (0, .ref b), (1, .int (zI d)), (2, .int (zI o))] [.int (zI 2)]
        refine v_if_ne X (by omega) dX10_caseOf_42 45 49 rfl (by decide) (fun c_11 => ?_) (fun c_11 => ?_)
        · skip
          refine v_iconst X dX10_caseOf_49 50 rfl ?_
          exfalso; omega
        · skip
          exfalso; omega
    · skip
      refine v_iconst X dX10_caseOf_22 23 rfl ?_
      refine v_goto X dX10_caseOf_23 35 (by decide) ?_
      refine v_putf X hM h_mo ftX10 0 rfl rfl 0 (by decide) kf_X10_30 (fun _ h => h) rfl rfl rfl (Nat.le_of_ble_eq_true rfl) (Or.inl (fsH (by omega) (by omega))) dX10_caseOf_35 38 rfl (ws' := modelW E b (updC mo 0 (updZ (mo 0) 0 1))) rfl (fun H12 lo12 hzz hM hF h_mo => ?_)
      clear hzz
      refine v_aload_n X dX10_caseOf_38 39 rfl 1 rfl ?_
      refine v_getf X hM.C h_mo.1 inX10 0 rfl rfl 0 (by decide) kf_X10_30 (fun _ h => h) rfl dX10_caseOf_39 42 rfl ?_
      show V p l e (rmL 2 0 0) s m args below meth cd Q 4 H12 lo12 0 0 42 [(3, .int (zI (firstZ (fun j => co 1 j = d ∧ co 2 j = o) (co 0 0).toNat))), (0, .ref b), (1, .int (zI d)), (2, .int (zI o))] [.int (zI 1)]
      refine v_if_ne X (by omega) dX10_caseOf_42 45 49 rfl (by decide) (fun c_13 => ?_) (fun c_13 => ?_)
      · skip
        refine v_iconst X dX10_caseOf_49 50 rfl ?_
        subst hQ; exact m_iret X hr hlk hM dX10_caseOf_50 rfl ⟨rfl, h_mo⟩
      · skip
        exfalso; omega
set_option maxHeartbeats 4000000 in
set_option maxRecDepth 20000 in
theorem c_X10_caseOf_1 (l : Launch) (E : Nat → Nat → Nat) (b : Nat) (mo : Nat → Int → Int) (co : Nat → Int → Int) (d : Int) (o : Int) (hO : OkC co) (hR : RelC co (mo 1)) (gd : Rg d) (go : Rg o) (p0 : (0 ≤ d ∧ d < 6) ∧ (0 ≤ o ∧ o < 5)) (nk : ¬ (0 ≤ firstZ (fun j => co 1 j = d ∧ co 2 j = o) (co 0 0).toNat)) : Mu l yX10_caseOf cX10_caseOf 4 (some .int) 2 0 0 E [(b, 5)] [.ref b, .int (zI d), .int (zI o)] (fun H => PR E b (modelW E b mo) H) (fun rv H => rv = some (.int (zI 0)) ∧ PR E b (modelW E b (updC mo 0 (updZ (mo 0) 0 2))) H) := by
  refine Mu.start (own := RX10) rfl (by decide +kernel) (Nat.le_of_ble_eq_true rfl) ?_
  intro p e s m below meth cd args Q hQ X hr hlk hnm hM hPr
  have h_mo := hPr
  have hb0 := hO.b0
  have hbw := hO.bw
  have hr0 := hR.s0
  have hr1 := hR.s1
  refine v_aload_n X dX10_caseOf_0 1 rfl 0 rfl ?_
  refine v_iload_n X dX10_caseOf_1 2 rfl 1 rfl ?_
  refine v_iload_n X dX10_caseOf_2 3 rfl 2 rfl ?_
  refine v_rdV X hM.C h_mo.1 (c_X10_findCase l E b mo co d o hO hR gd go) kvX10_findCase kiX10_findCase kl_X10_72 rfl rfl (As := [.int (zI d), .int (zI o)]) rfl rfl rfl dX10_caseOf_3 6 rfl ?_
  show V p l e (rmL 2 0 0) s m args below meth cd Q 4 s.heap [] 0 0 6 [(0, .ref b), (1, .int (zI d)), (2, .int (zI o))] [.int (zI (firstZ (fun j => co 1 j = d ∧ co 2 j = o) (co 0 0).toNat))]
  have hb_1 := hO.b0
  have hf_2 := firstZ_b (fun j => co 1 j = d ∧ co 2 j = o) (co 0 0).toNat
  refine v_istore_n X dX10_caseOf_6 7 rfl rfl (by decide) (L' := [(3, .int (zI (firstZ (fun j => co 1 j = d ∧ co 2 j = o) (co 0 0).toNat))), (0, .ref b), (1, .int (zI d)), (2, .int (zI o))]) rfl ?_
  refine v_aload_n X dX10_caseOf_7 8 rfl 1 rfl ?_
  refine v_iload_n X dX10_caseOf_8 9 rfl 2 rfl ?_
  refine v_rdS X hM.C (ws0 E s.heap) (c_X10_isDefendant l E d gd) kvX10_isDefendant ksX10_isDefendant kl_X10_65 (As := [.int (zI d)]) rfl rfl rfl dX10_caseOf_9 12 rfl ?_
  show V p l e (rmL 2 0 0) s m args below meth cd Q 4 s.heap [] 0 0 12 [(3, .int (zI (firstZ (fun j => co 1 j = d ∧ co 2 j = o) (co 0 0).toNat))), (0, .ref b), (1, .int (zI d)), (2, .int (zI o))] [.int (zI (bz (0 ≤ d ∧ d < 6))), .ref b]
  refine v_bif_eq X dX10_caseOf_12 15 22 rfl (by decide) (fun c_3 => ?_) (fun c_3 => ?_)
  · skip
    exfalso; first | omega | contradiction
  · skip
    refine v_iload_n X dX10_caseOf_15 16 rfl 3 rfl ?_
    refine v_rdS X hM.C (ws0 E s.heap) (c_X10_isOffence l E o go) kvX10_isOffence ksX10_isOffence kl_X10_69 (As := [.int (zI o)]) rfl rfl rfl dX10_caseOf_16 19 rfl ?_
    show V p l e (rmL 2 0 0) s m args below meth cd Q 4 s.heap [] 0 0 19 [(3, .int (zI (firstZ (fun j => co 1 j = d ∧ co 2 j = o) (co 0 0).toNat))), (0, .ref b), (1, .int (zI d)), (2, .int (zI o))] [.int (zI (bz (0 ≤ o ∧ o < 5))), .ref b]
    refine v_bif_ne X dX10_caseOf_19 22 26 rfl (by decide) (fun c_4 => ?_) (fun c_4 => ?_)
    · skip
      refine v_iload_n X dX10_caseOf_26 27 rfl 0 rfl ?_
      refine v_if_ge X (by omega) dX10_caseOf_27 30 34 rfl (by decide) (fun c_5 => ?_) (fun c_5 => ?_)
      · skip
        refine v_iconst X dX10_caseOf_34 35 rfl ?_
        refine v_putf X hM h_mo ftX10 0 rfl rfl 0 (by decide) kf_X10_30 (fun _ h => h) rfl rfl rfl (Nat.le_of_ble_eq_true rfl) (Or.inl (fsH (by omega) (by omega))) dX10_caseOf_35 38 rfl (ws' := modelW E b (updC mo 0 (updZ (mo 0) 0 0))) rfl (fun H6 lo6 hzz hM hF h_mo => ?_)
        clear hzz
        refine v_aload_n X dX10_caseOf_38 39 rfl 1 rfl ?_
        refine v_getf X hM.C h_mo.1 inX10 0 rfl rfl 0 (by decide) kf_X10_30 (fun _ h => h) rfl dX10_caseOf_39 42 rfl ?_
        show V p l e (rmL 2 0 0) s m args below meth cd Q 4 H6 lo6 0 0 42 [(3, .int (zI (firstZ (fun j => co 1 j = d ∧ co 2 j = o) (co 0 0).toNat))), (0, .ref b), (1, .int (zI d)), (2, .int (zI o))] [.int (zI 0)]
        refine v_if_ne X (by omega) dX10_caseOf_42 45 49 rfl (by decide) (fun c_7 => ?_) (fun c_7 => ?_)
        · skip
          exfalso; omega
        · skip
          refine v_iload_n X dX10_caseOf_45 46 rfl 0 rfl ?_
          refine v_goto X dX10_caseOf_46 50 (by decide) ?_
          exfalso; omega
      · skip
        refine v_iconst X dX10_caseOf_30 31 rfl ?_
        refine v_goto X dX10_caseOf_31 35 (by decide) ?_
        refine v_putf X hM h_mo ftX10 0 rfl rfl 0 (by decide) kf_X10_30 (fun _ h => h) rfl rfl rfl (Nat.le_of_ble_eq_true rfl) (Or.inl (fsH (by omega) (by omega))) dX10_caseOf_35 38 rfl (ws' := modelW E b (updC mo 0 (updZ (mo 0) 0 2))) rfl (fun H8 lo8 hzz hM hF h_mo => ?_)
        clear hzz
        refine v_aload_n X dX10_caseOf_38 39 rfl 1 rfl ?_
        refine v_getf X hM.C h_mo.1 inX10 0 rfl rfl 0 (by decide) kf_X10_30 (fun _ h => h) rfl dX10_caseOf_39 42 rfl ?_
        show V p l e (rmL 2 0 0) s m args below meth cd Q 4 H8 lo8 0 0 42 [(3, .int (zI (firstZ (fun j => co 1 j = d ∧ co 2 j = o) (co 0 0).toNat))), (0, .ref b), (1, .int (zI d)), (2, .int (zI o))] [.int (zI 2)]
        refine v_if_ne X (by omega) dX10_caseOf_42 45 49 rfl (by decide) (fun c_9 => ?_) (fun c_9 => ?_)
        · skip
          refine v_iconst X dX10_caseOf_49 50 rfl ?_
          subst hQ; exact m_iret X hr hlk hM dX10_caseOf_50 rfl ⟨rfl, h_mo⟩
        · skip
          exfalso; omega
    · skip
      exfalso; first | omega | contradiction
set_option maxHeartbeats 4000000 in
set_option maxRecDepth 20000 in
theorem c_X10_defendantOf (l : Launch) (E : Nat → Nat → Nat) (b : Nat) (mo : Nat → Int → Int) (co : Nat → Int → Int) (k : Int) (hO : OkC co) (hR : RelC co (mo 1)) (gk : Rg k) (p0 : 0 ≤ k ∧ k < co 0 0) : Mu l yX10_defendantOf cX10_defendantOf 2 (some .int) 3 0 0 E [(b, 5)] [.ref b, .int (zI k)] (fun H => PR E b (modelW E b mo) H) (fun rv H => rv = some (.int (zI (co 1 k))) ∧ PR E b (modelW E b (updC mo 0 (updZ (mo 0) 0 0))) H) := by
  refine Mu.start (own := RX10) rfl (by decide +kernel) (Nat.le_of_ble_eq_true rfl) ?_
  intro p e s m below meth cd args Q hQ X hr hlk hnm hM hPr
  have h_mo := hPr
  have hb0 := hO.b0
  have hbw := hO.bw
  have hr0 := hR.s0
  have hr1 := hR.s1
  refine v_aload_n X dX10_defendantOf_0 1 rfl 0 rfl ?_
  refine v_iload_n X dX10_defendantOf_1 2 rfl 1 rfl ?_
  refine v_iconst X dX10_defendantOf_2 3 rfl ?_
  refine v_muV X hM (h_mo.1) (c_X10_ofCase_c0 l E b mo co k hO hR gk p0) kvX10_ofCase kiX10_ofCase kl_X10_128 (q0 := 0) rfl rfl (As := [.int (zI k), .int (zI 0)]) rfl rfl rfl dX10_defendantOf_3 6 rfl (k' := 0) (n' := 0) rfl rfl (fsI (fun q q1 q2 => (Or.inl (fsH (by omega) (by omega))))) h_mo (fun rv H1 lo1 hM hF hpo => ?_)
  obtain ⟨rfl, hw_0⟩ := hpo
  have h_mo : PR E b (modelW E b (updC mo 0 (updZ (mo 0) 0 0))) H1 := hw_0
  show V p l e (rmL 3 0 0) s m args below meth cd Q 2 H1 lo1 0 0 6 [(0, .ref b), (1, .int (zI k))] [.int (zI (co 1 k))]
  have hb_2 := hO.b1 k
  subst hQ; exact m_iret X hr hlk hM dX10_defendantOf_6 rfl ⟨rfl, h_mo⟩
set_option maxHeartbeats 4000000 in
set_option maxRecDepth 20000 in
theorem c_X10_defendantOf_0 (l : Launch) (E : Nat → Nat → Nat) (b : Nat) (mo : Nat → Int → Int) (co : Nat → Int → Int) (k : Int) (hO : OkC co) (hR : RelC co (mo 1)) (gk : Rg k) (nk : ¬ (0 ≤ k ∧ k < co 0 0)) : Mu l yX10_defendantOf cX10_defendantOf 2 (some .int) 3 0 0 E [(b, 5)] [.ref b, .int (zI k)] (fun H => PR E b (modelW E b mo) H) (fun rv H => rv = some (.int (zI 0)) ∧ PR E b (modelW E b (updC mo 0 (updZ (mo 0) 0 1))) H) := by
  refine Mu.start (own := RX10) rfl (by decide +kernel) (Nat.le_of_ble_eq_true rfl) ?_
  intro p e s m below meth cd args Q hQ X hr hlk hnm hM hPr
  have h_mo := hPr
  have hb0 := hO.b0
  have hbw := hO.bw
  have hr0 := hR.s0
  have hr1 := hR.s1
  refine v_aload_n X dX10_defendantOf_0 1 rfl 0 rfl ?_
  refine v_iload_n X dX10_defendantOf_1 2 rfl 1 rfl ?_
  refine v_iconst X dX10_defendantOf_2 3 rfl ?_
  refine v_muV X hM (h_mo.1) (c_X10_ofCase_c0_0 l E b mo co k hO hR gk nk) kvX10_ofCase kiX10_ofCase kl_X10_128 (q0 := 0) rfl rfl (As := [.int (zI k), .int (zI 0)]) rfl rfl rfl dX10_defendantOf_3 6 rfl (k' := 0) (n' := 0) rfl rfl (fsI (fun q q1 q2 => (Or.inl (fsH (by omega) (by omega))))) h_mo (fun rv H1 lo1 hM hF hpo => ?_)
  obtain ⟨rfl, hw_0⟩ := hpo
  have h_mo : PR E b (modelW E b (updC mo 0 (updZ (mo 0) 0 1))) H1 := hw_0
  show V p l e (rmL 3 0 0) s m args below meth cd Q 2 H1 lo1 0 0 6 [(0, .ref b), (1, .int (zI k))] [.int (zI 0)]
  subst hQ; exact m_iret X hr hlk hM dX10_defendantOf_6 rfl ⟨rfl, h_mo⟩
set_option maxHeartbeats 4000000 in
set_option maxRecDepth 20000 in
theorem c_X10_offenceOf (l : Launch) (E : Nat → Nat → Nat) (b : Nat) (mo : Nat → Int → Int) (co : Nat → Int → Int) (k : Int) (hO : OkC co) (hR : RelC co (mo 1)) (gk : Rg k) (p0 : 0 ≤ k ∧ k < co 0 0) : Mu l yX10_offenceOf cX10_offenceOf 2 (some .int) 3 0 0 E [(b, 5)] [.ref b, .int (zI k)] (fun H => PR E b (modelW E b mo) H) (fun rv H => rv = some (.int (zI (co 2 k))) ∧ PR E b (modelW E b (updC mo 0 (updZ (mo 0) 0 0))) H) := by
  refine Mu.start (own := RX10) rfl (by decide +kernel) (Nat.le_of_ble_eq_true rfl) ?_
  intro p e s m below meth cd args Q hQ X hr hlk hnm hM hPr
  have h_mo := hPr
  have hb0 := hO.b0
  have hbw := hO.bw
  have hr0 := hR.s0
  have hr1 := hR.s1
  refine v_aload_n X dX10_offenceOf_0 1 rfl 0 rfl ?_
  refine v_iload_n X dX10_offenceOf_1 2 rfl 1 rfl ?_
  refine v_iconst X dX10_offenceOf_2 3 rfl ?_
  refine v_muV X hM (h_mo.1) (c_X10_ofCase_c1 l E b mo co k hO hR gk p0) kvX10_ofCase kiX10_ofCase kl_X10_128 (q0 := 0) rfl rfl (As := [.int (zI k), .int (zI 1)]) rfl rfl rfl dX10_offenceOf_3 6 rfl (k' := 0) (n' := 0) rfl rfl (fsI (fun q q1 q2 => (Or.inl (fsH (by omega) (by omega))))) h_mo (fun rv H1 lo1 hM hF hpo => ?_)
  obtain ⟨rfl, hw_0⟩ := hpo
  have h_mo : PR E b (modelW E b (updC mo 0 (updZ (mo 0) 0 0))) H1 := hw_0
  show V p l e (rmL 3 0 0) s m args below meth cd Q 2 H1 lo1 0 0 6 [(0, .ref b), (1, .int (zI k))] [.int (zI (co 2 k))]
  have hb_2 := hO.b2 k
  subst hQ; exact m_iret X hr hlk hM dX10_offenceOf_6 rfl ⟨rfl, h_mo⟩
set_option maxHeartbeats 4000000 in
set_option maxRecDepth 20000 in
theorem c_X10_offenceOf_0 (l : Launch) (E : Nat → Nat → Nat) (b : Nat) (mo : Nat → Int → Int) (co : Nat → Int → Int) (k : Int) (hO : OkC co) (hR : RelC co (mo 1)) (gk : Rg k) (nk : ¬ (0 ≤ k ∧ k < co 0 0)) : Mu l yX10_offenceOf cX10_offenceOf 2 (some .int) 3 0 0 E [(b, 5)] [.ref b, .int (zI k)] (fun H => PR E b (modelW E b mo) H) (fun rv H => rv = some (.int (zI 0)) ∧ PR E b (modelW E b (updC mo 0 (updZ (mo 0) 0 1))) H) := by
  refine Mu.start (own := RX10) rfl (by decide +kernel) (Nat.le_of_ble_eq_true rfl) ?_
  intro p e s m below meth cd args Q hQ X hr hlk hnm hM hPr
  have h_mo := hPr
  have hb0 := hO.b0
  have hbw := hO.bw
  have hr0 := hR.s0
  have hr1 := hR.s1
  refine v_aload_n X dX10_offenceOf_0 1 rfl 0 rfl ?_
  refine v_iload_n X dX10_offenceOf_1 2 rfl 1 rfl ?_
  refine v_iconst X dX10_offenceOf_2 3 rfl ?_
  refine v_muV X hM (h_mo.1) (c_X10_ofCase_c1_0 l E b mo co k hO hR gk nk) kvX10_ofCase kiX10_ofCase kl_X10_128 (q0 := 0) rfl rfl (As := [.int (zI k), .int (zI 1)]) rfl rfl rfl dX10_offenceOf_3 6 rfl (k' := 0) (n' := 0) rfl rfl (fsI (fun q q1 q2 => (Or.inl (fsH (by omega) (by omega))))) h_mo (fun rv H1 lo1 hM hF hpo => ?_)
  obtain ⟨rfl, hw_0⟩ := hpo
  have h_mo : PR E b (modelW E b (updC mo 0 (updZ (mo 0) 0 1))) H1 := hw_0
  show V p l e (rmL 3 0 0) s m args below meth cd Q 2 H1 lo1 0 0 6 [(0, .ref b), (1, .int (zI k))] [.int (zI 0)]
  subst hQ; exact m_iret X hr hlk hM dX10_offenceOf_6 rfl ⟨rfl, h_mo⟩
set_option maxHeartbeats 4000000 in
set_option maxRecDepth 20000 in
theorem c_X10_appealCount (l : Launch) (E : Nat → Nat → Nat) (b : Nat) (mo : Nat → Int → Int) (co : Nat → Int → Int) (k : Int) (hO : OkC co) (hR : RelC co (mo 1)) (gk : Rg k) (p0 : 0 ≤ k ∧ k < co 0 0) : Mu l yX10_appealCount cX10_appealCount 2 (some .int) 3 0 0 E [(b, 5)] [.ref b, .int (zI k)] (fun H => PR E b (modelW E b mo) H) (fun rv H => rv = some (.int (zI (co 5 k))) ∧ PR E b (modelW E b (updC mo 0 (updZ (mo 0) 0 0))) H) := by
  refine Mu.start (own := RX10) rfl (by decide +kernel) (Nat.le_of_ble_eq_true rfl) ?_
  intro p e s m below meth cd args Q hQ X hr hlk hnm hM hPr
  have h_mo := hPr
  have hb0 := hO.b0
  have hbw := hO.bw
  have hr0 := hR.s0
  have hr1 := hR.s1
  refine v_aload_n X dX10_appealCount_0 1 rfl 0 rfl ?_
  refine v_iload_n X dX10_appealCount_1 2 rfl 1 rfl ?_
  refine v_iconst X dX10_appealCount_2 3 rfl ?_
  refine v_muV X hM (h_mo.1) (c_X10_ofCase_c4 l E b mo co k hO hR gk p0) kvX10_ofCase kiX10_ofCase kl_X10_128 (q0 := 0) rfl rfl (As := [.int (zI k), .int (zI 4)]) rfl rfl rfl dX10_appealCount_3 6 rfl (k' := 0) (n' := 0) rfl rfl (fsI (fun q q1 q2 => (Or.inl (fsH (by omega) (by omega))))) h_mo (fun rv H1 lo1 hM hF hpo => ?_)
  obtain ⟨rfl, hw_0⟩ := hpo
  have h_mo : PR E b (modelW E b (updC mo 0 (updZ (mo 0) 0 0))) H1 := hw_0
  show V p l e (rmL 3 0 0) s m args below meth cd Q 2 H1 lo1 0 0 6 [(0, .ref b), (1, .int (zI k))] [.int (zI (co 5 k))]
  have hb_2 := hO.b5 k
  subst hQ; exact m_iret X hr hlk hM dX10_appealCount_6 rfl ⟨rfl, h_mo⟩
set_option maxHeartbeats 4000000 in
set_option maxRecDepth 20000 in
theorem c_X10_appealCount_0 (l : Launch) (E : Nat → Nat → Nat) (b : Nat) (mo : Nat → Int → Int) (co : Nat → Int → Int) (k : Int) (hO : OkC co) (hR : RelC co (mo 1)) (gk : Rg k) (nk : ¬ (0 ≤ k ∧ k < co 0 0)) : Mu l yX10_appealCount cX10_appealCount 2 (some .int) 3 0 0 E [(b, 5)] [.ref b, .int (zI k)] (fun H => PR E b (modelW E b mo) H) (fun rv H => rv = some (.int (zI 0)) ∧ PR E b (modelW E b (updC mo 0 (updZ (mo 0) 0 1))) H) := by
  refine Mu.start (own := RX10) rfl (by decide +kernel) (Nat.le_of_ble_eq_true rfl) ?_
  intro p e s m below meth cd args Q hQ X hr hlk hnm hM hPr
  have h_mo := hPr
  have hb0 := hO.b0
  have hbw := hO.bw
  have hr0 := hR.s0
  have hr1 := hR.s1
  refine v_aload_n X dX10_appealCount_0 1 rfl 0 rfl ?_
  refine v_iload_n X dX10_appealCount_1 2 rfl 1 rfl ?_
  refine v_iconst X dX10_appealCount_2 3 rfl ?_
  refine v_muV X hM (h_mo.1) (c_X10_ofCase_c4_0 l E b mo co k hO hR gk nk) kvX10_ofCase kiX10_ofCase kl_X10_128 (q0 := 0) rfl rfl (As := [.int (zI k), .int (zI 4)]) rfl rfl rfl dX10_appealCount_3 6 rfl (k' := 0) (n' := 0) rfl rfl (fsI (fun q q1 q2 => (Or.inl (fsH (by omega) (by omega))))) h_mo (fun rv H1 lo1 hM hF hpo => ?_)
  obtain ⟨rfl, hw_0⟩ := hpo
  have h_mo : PR E b (modelW E b (updC mo 0 (updZ (mo 0) 0 1))) H1 := hw_0
  show V p l e (rmL 3 0 0) s m args below meth cd Q 2 H1 lo1 0 0 6 [(0, .ref b), (1, .int (zI k))] [.int (zI 0)]
  subst hQ; exact m_iret X hr hlk hM dX10_appealCount_6 rfl ⟨rfl, h_mo⟩
set_option maxHeartbeats 4000000 in
set_option maxRecDepth 20000 in
theorem c_X10_testimonyCount (l : Launch) (E : Nat → Nat → Nat) (b : Nat) (mo : Nat → Int → Int) (co : Nat → Int → Int) (k : Int) (hO : OkC co) (hR : RelC co (mo 1)) (gk : Rg k) (p0 : 0 ≤ k ∧ k < co 0 0) : Mu l yX10_testimonyCount cX10_testimonyCount 2 (some .int) 3 0 0 E [(b, 5)] [.ref b, .int (zI k)] (fun H => PR E b (modelW E b mo) H) (fun rv H => rv = some (.int (zI (co 6 k))) ∧ PR E b (modelW E b (updC mo 0 (updZ (mo 0) 0 0))) H) := by
  refine Mu.start (own := RX10) rfl (by decide +kernel) (Nat.le_of_ble_eq_true rfl) ?_
  intro p e s m below meth cd args Q hQ X hr hlk hnm hM hPr
  have h_mo := hPr
  have hb0 := hO.b0
  have hbw := hO.bw
  have hr0 := hR.s0
  have hr1 := hR.s1
  refine v_aload_n X dX10_testimonyCount_0 1 rfl 0 rfl ?_
  refine v_iload_n X dX10_testimonyCount_1 2 rfl 1 rfl ?_
  refine v_iconst X dX10_testimonyCount_2 3 rfl ?_
  refine v_muV X hM (h_mo.1) (c_X10_ofCase_c5 l E b mo co k hO hR gk p0) kvX10_ofCase kiX10_ofCase kl_X10_128 (q0 := 0) rfl rfl (As := [.int (zI k), .int (zI 5)]) rfl rfl rfl dX10_testimonyCount_3 6 rfl (k' := 0) (n' := 0) rfl rfl (fsI (fun q q1 q2 => (Or.inl (fsH (by omega) (by omega))))) h_mo (fun rv H1 lo1 hM hF hpo => ?_)
  obtain ⟨rfl, hw_0⟩ := hpo
  have h_mo : PR E b (modelW E b (updC mo 0 (updZ (mo 0) 0 0))) H1 := hw_0
  show V p l e (rmL 3 0 0) s m args below meth cd Q 2 H1 lo1 0 0 6 [(0, .ref b), (1, .int (zI k))] [.int (zI (co 6 k))]
  have hb_2 := hO.b6 k
  subst hQ; exact m_iret X hr hlk hM dX10_testimonyCount_6 rfl ⟨rfl, h_mo⟩
set_option maxHeartbeats 4000000 in
set_option maxRecDepth 20000 in
theorem c_X10_testimonyCount_0 (l : Launch) (E : Nat → Nat → Nat) (b : Nat) (mo : Nat → Int → Int) (co : Nat → Int → Int) (k : Int) (hO : OkC co) (hR : RelC co (mo 1)) (gk : Rg k) (nk : ¬ (0 ≤ k ∧ k < co 0 0)) : Mu l yX10_testimonyCount cX10_testimonyCount 2 (some .int) 3 0 0 E [(b, 5)] [.ref b, .int (zI k)] (fun H => PR E b (modelW E b mo) H) (fun rv H => rv = some (.int (zI 0)) ∧ PR E b (modelW E b (updC mo 0 (updZ (mo 0) 0 1))) H) := by
  refine Mu.start (own := RX10) rfl (by decide +kernel) (Nat.le_of_ble_eq_true rfl) ?_
  intro p e s m below meth cd args Q hQ X hr hlk hnm hM hPr
  have h_mo := hPr
  have hb0 := hO.b0
  have hbw := hO.bw
  have hr0 := hR.s0
  have hr1 := hR.s1
  refine v_aload_n X dX10_testimonyCount_0 1 rfl 0 rfl ?_
  refine v_iload_n X dX10_testimonyCount_1 2 rfl 1 rfl ?_
  refine v_iconst X dX10_testimonyCount_2 3 rfl ?_
  refine v_muV X hM (h_mo.1) (c_X10_ofCase_c5_0 l E b mo co k hO hR gk nk) kvX10_ofCase kiX10_ofCase kl_X10_128 (q0 := 0) rfl rfl (As := [.int (zI k), .int (zI 5)]) rfl rfl rfl dX10_testimonyCount_3 6 rfl (k' := 0) (n' := 0) rfl rfl (fsI (fun q q1 q2 => (Or.inl (fsH (by omega) (by omega))))) h_mo (fun rv H1 lo1 hM hF hpo => ?_)
  obtain ⟨rfl, hw_0⟩ := hpo
  have h_mo : PR E b (modelW E b (updC mo 0 (updZ (mo 0) 0 1))) H1 := hw_0
  show V p l e (rmL 3 0 0) s m args below meth cd Q 2 H1 lo1 0 0 6 [(0, .ref b), (1, .int (zI k))] [.int (zI 0)]
  subst hQ; exact m_iret X hr hlk hM dX10_testimonyCount_6 rfl ⟨rfl, h_mo⟩
set_option maxHeartbeats 4000000 in
set_option maxRecDepth 20000 in
theorem c_X10_isOpen (l : Launch) (E : Nat → Nat → Nat) (b : Nat) (mo : Nat → Int → Int) (co : Nat → Int → Int) (k : Int) (hO : OkC co) (hR : RelC co (mo 1)) (gk : Rg k) (p0 : 0 ≤ k ∧ k < co 0 0) : Mu l yX10_isOpen cX10_isOpen 2 (some .boolean) 2 0 0 E [(b, 5)] [.ref b, .int (zI k)] (fun H => PR E b (modelW E b mo) H) (fun rv H => rv = some (.int (zI (bz (co 3 k = 0)))) ∧ PR E b (modelW E b (updC mo 0 (updZ (mo 0) 0 0))) H) := by
  refine Mu.start (own := RX10) rfl (by decide +kernel) (Nat.le_of_ble_eq_true rfl) ?_
  intro p e s m below meth cd args Q hQ X hr hlk hnm hM hPr
  have h_mo := hPr
  have hb0 := hO.b0
  have hbw := hO.bw
  have hr0 := hR.s0
  have hr1 := hR.s1
  refine v_aload_n X dX10_isOpen_0 1 rfl 0 rfl ?_
  refine v_aload_n X dX10_isOpen_1 2 rfl 0 rfl ?_
  refine v_iload_n X dX10_isOpen_2 3 rfl 1 rfl ?_
  refine v_rdV X hM.C h_mo.1 (c_X10_isCase l E b mo co k hO hR gk) kvX10_isCase kiX10_isCase kl_X10_92 rfl rfl (As := [.int (zI k)]) rfl rfl rfl dX10_isOpen_3 6 rfl ?_
  show V p l e (rmL 2 0 0) s m args below meth cd Q 2 s.heap [] 0 0 6 [(0, .ref b), (1, .int (zI k))] [.int (zI (bz (0 ≤ k ∧ k < co 0 0))), .ref b]
  refine V_S (st' := [.int (zI 1), .ref b]) (by rw [bz_t (φ := 0 ≤ k ∧ k < co 0 0) (by first | omega | assumption)]) ?_
  refine v_muV X hM (h_mo.1) (c_X10_isFine_1 l E b mo) kvX10_isFine kiX10_isFine kl_X10_124 (q0 := 0) rfl rfl (As := [.int (zI 1)]) rfl rfl rfl dX10_isOpen_6 9 rfl (k' := 0) (n' := 0) rfl rfl (fsI (fun q q1 q2 => (Or.inl (fsH (by omega) (by omega))))) h_mo (fun rv H1 lo1 hM hF hpo => ?_)
  obtain ⟨rfl, hw_0⟩ := hpo
  have h_mo : PR E b (modelW E b (updC mo 0 (updZ (mo 0) 0 0))) H1 := hw_0
  show V p l e (rmL 2 0 0) s m args below meth cd Q 2 H1 lo1 0 0 9 [(0, .ref b), (1, .int (zI k))] [.int (zI 1)]
  refine v_if_eq X (by omega) dX10_isOpen_9 12 25 rfl (by decide) (fun c_2 => ?_) (fun c_2 => ?_)
  · skip
    exfalso; omega
  · skip
    refine v_aload_n X dX10_isOpen_12 13 rfl 0 rfl ?_
    refine v_iload_n X dX10_isOpen_13 14 rfl 1 rfl ?_
    refine v_iconst X dX10_isOpen_14 15 rfl ?_
    have hb_3 := hO.b0
    refine v_rdV X hM.C h_mo.1 (c_X10_c_2 l E b (updC mo 0 (updZ (mo 0) 0 0)) co k hO hR (by omega) (by omega)) kvX10_c kiX10_c kl_X10_47 rfl rfl (As := [.int (zI k), .int (zI 2)]) rfl rfl rfl dX10_isOpen_15 18 rfl ?_
    show V p l e (rmL 2 0 0) s m args below meth cd Q 2 H1 lo1 0 0 18 [(0, .ref b), (1, .int (zI k))] [.int (zI (co 3 k))]
    have hb_4 := hO.b3 k
    refine v_if_ne X (by omega) dX10_isOpen_18 21 25 rfl (by decide) (fun c_5 => ?_) (fun c_5 => ?_)
    · skip
      refine v_iconst X dX10_isOpen_25 26 rfl ?_
      subst hQ; exact m_zret X hr hlk hM dX10_isOpen_26 rfl (by omega) ⟨(sv (bz_f (by omega))), h_mo⟩
    · skip
      refine v_iconst X dX10_isOpen_21 22 rfl ?_
      refine v_goto X dX10_isOpen_22 26 (by decide) ?_
      subst hQ; exact m_zret X hr hlk hM dX10_isOpen_26 rfl (by omega) ⟨(sv (bz_t (by omega))), h_mo⟩
set_option maxHeartbeats 4000000 in
set_option maxRecDepth 20000 in
theorem c_X10_isOpen_0 (l : Launch) (E : Nat → Nat → Nat) (b : Nat) (mo : Nat → Int → Int) (co : Nat → Int → Int) (k : Int) (hO : OkC co) (hR : RelC co (mo 1)) (gk : Rg k) (nk : ¬ (0 ≤ k ∧ k < co 0 0)) : Mu l yX10_isOpen cX10_isOpen 2 (some .boolean) 2 0 0 E [(b, 5)] [.ref b, .int (zI k)] (fun H => PR E b (modelW E b mo) H) (fun rv H => rv = some (.int (zI 0)) ∧ PR E b (modelW E b (updC mo 0 (updZ (mo 0) 0 1))) H) := by
  refine Mu.start (own := RX10) rfl (by decide +kernel) (Nat.le_of_ble_eq_true rfl) ?_
  intro p e s m below meth cd args Q hQ X hr hlk hnm hM hPr
  have h_mo := hPr
  have hb0 := hO.b0
  have hbw := hO.bw
  have hr0 := hR.s0
  have hr1 := hR.s1
  refine v_aload_n X dX10_isOpen_0 1 rfl 0 rfl ?_
  refine v_aload_n X dX10_isOpen_1 2 rfl 0 rfl ?_
  refine v_iload_n X dX10_isOpen_2 3 rfl 1 rfl ?_
  refine v_rdV X hM.C h_mo.1 (c_X10_isCase l E b mo co k hO hR gk) kvX10_isCase kiX10_isCase kl_X10_92 rfl rfl (As := [.int (zI k)]) rfl rfl rfl dX10_isOpen_3 6 rfl ?_
  show V p l e (rmL 2 0 0) s m args below meth cd Q 2 s.heap [] 0 0 6 [(0, .ref b), (1, .int (zI k))] [.int (zI (bz (0 ≤ k ∧ k < co 0 0))), .ref b]
  refine V_S (st' := [.int (zI 0), .ref b]) (by rw [bz_f (φ := 0 ≤ k ∧ k < co 0 0) (by first | omega | assumption)]) ?_
  refine v_muV X hM (h_mo.1) (c_X10_isFine_0 l E b mo) kvX10_isFine kiX10_isFine kl_X10_124 (q0 := 0) rfl rfl (As := [.int (zI 0)]) rfl rfl rfl dX10_isOpen_6 9 rfl (k' := 0) (n' := 0) rfl rfl (fsI (fun q q1 q2 => (Or.inl (fsH (by omega) (by omega))))) h_mo (fun rv H1 lo1 hM hF hpo => ?_)
  obtain ⟨rfl, hw_0⟩ := hpo
  have h_mo : PR E b (modelW E b (updC mo 0 (updZ (mo 0) 0 1))) H1 := hw_0
  show V p l e (rmL 2 0 0) s m args below meth cd Q 2 H1 lo1 0 0 9 [(0, .ref b), (1, .int (zI k))] [.int (zI 0)]
  refine v_if_eq X (by omega) dX10_isOpen_9 12 25 rfl (by decide) (fun c_2 => ?_) (fun c_2 => ?_)
  · skip
    refine v_iconst X dX10_isOpen_25 26 rfl ?_
    subst hQ; exact m_zret X hr hlk hM dX10_isOpen_26 rfl (by omega) ⟨rfl, h_mo⟩
  · skip
    exfalso; omega
set_option maxHeartbeats 4000000 in
set_option maxRecDepth 20000 in
theorem c_X10_isDecided (l : Launch) (E : Nat → Nat → Nat) (b : Nat) (mo : Nat → Int → Int) (co : Nat → Int → Int) (k : Int) (hO : OkC co) (hR : RelC co (mo 1)) (gk : Rg k) (p0 : 0 ≤ k ∧ k < co 0 0) : Mu l yX10_isDecided cX10_isDecided 2 (some .boolean) 3 0 0 E [(b, 5)] [.ref b, .int (zI k)] (fun H => PR E b (modelW E b mo) H) (fun rv H => rv = some (.int (zI (bz (co 3 k = 1)))) ∧ PR E b (modelW E b (updC mo 0 (updZ (mo 0) 0 0))) H) := by
  refine Mu.start (own := RX10) rfl (by decide +kernel) (Nat.le_of_ble_eq_true rfl) ?_
  intro p e s m below meth cd args Q hQ X hr hlk hnm hM hPr
  have h_mo := hPr
  have hb0 := hO.b0
  have hbw := hO.bw
  have hr0 := hR.s0
  have hr1 := hR.s1
  refine v_aload_n X dX10_isDecided_0 1 rfl 0 rfl ?_
  refine v_iload_n X dX10_isDecided_1 2 rfl 1 rfl ?_
  refine v_iconst X dX10_isDecided_2 3 rfl ?_
  refine v_muV X hM (h_mo.1) (c_X10_ofCase_c2 l E b mo co k hO hR gk p0) kvX10_ofCase kiX10_ofCase kl_X10_128 (q0 := 0) rfl rfl (As := [.int (zI k), .int (zI 2)]) rfl rfl rfl dX10_isDecided_3 6 rfl (k' := 0) (n' := 0) rfl rfl (fsI (fun q q1 q2 => (Or.inl (fsH (by omega) (by omega))))) h_mo (fun rv H1 lo1 hM hF hpo => ?_)
  obtain ⟨rfl, hw_0⟩ := hpo
  have h_mo : PR E b (modelW E b (updC mo 0 (updZ (mo 0) 0 0))) H1 := hw_0
  show V p l e (rmL 3 0 0) s m args below meth cd Q 2 H1 lo1 0 0 6 [(0, .ref b), (1, .int (zI k))] [.int (zI (co 3 k))]
  have hb_2 := hO.b3 k
  refine v_iconst X dX10_isDecided_6 7 rfl ?_
  refine v_icmp_ne X (by omega) (by omega) dX10_isDecided_7 10 14 rfl (by decide) (fun c_3 => ?_) (fun c_3 => ?_)
  · skip
    refine v_iconst X dX10_isDecided_14 15 rfl ?_
    subst hQ; exact m_zret X hr hlk hM dX10_isDecided_15 rfl (by omega) ⟨(sv (bz_f (by omega))), h_mo⟩
  · skip
    refine v_iconst X dX10_isDecided_10 11 rfl ?_
    refine v_goto X dX10_isDecided_11 15 (by decide) ?_
    subst hQ; exact m_zret X hr hlk hM dX10_isDecided_15 rfl (by omega) ⟨(sv (bz_t (by omega))), h_mo⟩
set_option maxHeartbeats 4000000 in
set_option maxRecDepth 20000 in
theorem c_X10_isDecided_0 (l : Launch) (E : Nat → Nat → Nat) (b : Nat) (mo : Nat → Int → Int) (co : Nat → Int → Int) (k : Int) (hO : OkC co) (hR : RelC co (mo 1)) (gk : Rg k) (nk : ¬ (0 ≤ k ∧ k < co 0 0)) : Mu l yX10_isDecided cX10_isDecided 2 (some .boolean) 3 0 0 E [(b, 5)] [.ref b, .int (zI k)] (fun H => PR E b (modelW E b mo) H) (fun rv H => rv = some (.int (zI 0)) ∧ PR E b (modelW E b (updC mo 0 (updZ (mo 0) 0 1))) H) := by
  refine Mu.start (own := RX10) rfl (by decide +kernel) (Nat.le_of_ble_eq_true rfl) ?_
  intro p e s m below meth cd args Q hQ X hr hlk hnm hM hPr
  have h_mo := hPr
  have hb0 := hO.b0
  have hbw := hO.bw
  have hr0 := hR.s0
  have hr1 := hR.s1
  refine v_aload_n X dX10_isDecided_0 1 rfl 0 rfl ?_
  refine v_iload_n X dX10_isDecided_1 2 rfl 1 rfl ?_
  refine v_iconst X dX10_isDecided_2 3 rfl ?_
  refine v_muV X hM (h_mo.1) (c_X10_ofCase_c2_0 l E b mo co k hO hR gk nk) kvX10_ofCase kiX10_ofCase kl_X10_128 (q0 := 0) rfl rfl (As := [.int (zI k), .int (zI 2)]) rfl rfl rfl dX10_isDecided_3 6 rfl (k' := 0) (n' := 0) rfl rfl (fsI (fun q q1 q2 => (Or.inl (fsH (by omega) (by omega))))) h_mo (fun rv H1 lo1 hM hF hpo => ?_)
  obtain ⟨rfl, hw_0⟩ := hpo
  have h_mo : PR E b (modelW E b (updC mo 0 (updZ (mo 0) 0 1))) H1 := hw_0
  show V p l e (rmL 3 0 0) s m args below meth cd Q 2 H1 lo1 0 0 6 [(0, .ref b), (1, .int (zI k))] [.int (zI 0)]
  refine v_iconst X dX10_isDecided_6 7 rfl ?_
  refine v_icmp_ne X (by omega) (by omega) dX10_isDecided_7 10 14 rfl (by decide) (fun c_2 => ?_) (fun c_2 => ?_)
  · skip
    refine v_iconst X dX10_isDecided_14 15 rfl ?_
    subst hQ; exact m_zret X hr hlk hM dX10_isDecided_15 rfl (by omega) ⟨rfl, h_mo⟩
  · skip
    exfalso; omega
set_option maxHeartbeats 4000000 in
set_option maxRecDepth 20000 in
theorem c_X10_isClosed (l : Launch) (E : Nat → Nat → Nat) (b : Nat) (mo : Nat → Int → Int) (co : Nat → Int → Int) (k : Int) (hO : OkC co) (hR : RelC co (mo 1)) (gk : Rg k) (p0 : 0 ≤ k ∧ k < co 0 0) : Mu l yX10_isClosed cX10_isClosed 2 (some .boolean) 3 0 0 E [(b, 5)] [.ref b, .int (zI k)] (fun H => PR E b (modelW E b mo) H) (fun rv H => rv = some (.int (zI (bz (co 3 k = 2)))) ∧ PR E b (modelW E b (updC mo 0 (updZ (mo 0) 0 0))) H) := by
  refine Mu.start (own := RX10) rfl (by decide +kernel) (Nat.le_of_ble_eq_true rfl) ?_
  intro p e s m below meth cd args Q hQ X hr hlk hnm hM hPr
  have h_mo := hPr
  have hb0 := hO.b0
  have hbw := hO.bw
  have hr0 := hR.s0
  have hr1 := hR.s1
  refine v_aload_n X dX10_isClosed_0 1 rfl 0 rfl ?_
  refine v_iload_n X dX10_isClosed_1 2 rfl 1 rfl ?_
  refine v_iconst X dX10_isClosed_2 3 rfl ?_
  refine v_muV X hM (h_mo.1) (c_X10_ofCase_c2 l E b mo co k hO hR gk p0) kvX10_ofCase kiX10_ofCase kl_X10_128 (q0 := 0) rfl rfl (As := [.int (zI k), .int (zI 2)]) rfl rfl rfl dX10_isClosed_3 6 rfl (k' := 0) (n' := 0) rfl rfl (fsI (fun q q1 q2 => (Or.inl (fsH (by omega) (by omega))))) h_mo (fun rv H1 lo1 hM hF hpo => ?_)
  obtain ⟨rfl, hw_0⟩ := hpo
  have h_mo : PR E b (modelW E b (updC mo 0 (updZ (mo 0) 0 0))) H1 := hw_0
  show V p l e (rmL 3 0 0) s m args below meth cd Q 2 H1 lo1 0 0 6 [(0, .ref b), (1, .int (zI k))] [.int (zI (co 3 k))]
  have hb_2 := hO.b3 k
  refine v_iconst X dX10_isClosed_6 7 rfl ?_
  refine v_icmp_ne X (by omega) (by omega) dX10_isClosed_7 10 14 rfl (by decide) (fun c_3 => ?_) (fun c_3 => ?_)
  · skip
    refine v_iconst X dX10_isClosed_14 15 rfl ?_
    subst hQ; exact m_zret X hr hlk hM dX10_isClosed_15 rfl (by omega) ⟨(sv (bz_f (by omega))), h_mo⟩
  · skip
    refine v_iconst X dX10_isClosed_10 11 rfl ?_
    refine v_goto X dX10_isClosed_11 15 (by decide) ?_
    subst hQ; exact m_zret X hr hlk hM dX10_isClosed_15 rfl (by omega) ⟨(sv (bz_t (by omega))), h_mo⟩
set_option maxHeartbeats 4000000 in
set_option maxRecDepth 20000 in
theorem c_X10_isClosed_0 (l : Launch) (E : Nat → Nat → Nat) (b : Nat) (mo : Nat → Int → Int) (co : Nat → Int → Int) (k : Int) (hO : OkC co) (hR : RelC co (mo 1)) (gk : Rg k) (nk : ¬ (0 ≤ k ∧ k < co 0 0)) : Mu l yX10_isClosed cX10_isClosed 2 (some .boolean) 3 0 0 E [(b, 5)] [.ref b, .int (zI k)] (fun H => PR E b (modelW E b mo) H) (fun rv H => rv = some (.int (zI 0)) ∧ PR E b (modelW E b (updC mo 0 (updZ (mo 0) 0 1))) H) := by
  refine Mu.start (own := RX10) rfl (by decide +kernel) (Nat.le_of_ble_eq_true rfl) ?_
  intro p e s m below meth cd args Q hQ X hr hlk hnm hM hPr
  have h_mo := hPr
  have hb0 := hO.b0
  have hbw := hO.bw
  have hr0 := hR.s0
  have hr1 := hR.s1
  refine v_aload_n X dX10_isClosed_0 1 rfl 0 rfl ?_
  refine v_iload_n X dX10_isClosed_1 2 rfl 1 rfl ?_
  refine v_iconst X dX10_isClosed_2 3 rfl ?_
  refine v_muV X hM (h_mo.1) (c_X10_ofCase_c2_0 l E b mo co k hO hR gk nk) kvX10_ofCase kiX10_ofCase kl_X10_128 (q0 := 0) rfl rfl (As := [.int (zI k), .int (zI 2)]) rfl rfl rfl dX10_isClosed_3 6 rfl (k' := 0) (n' := 0) rfl rfl (fsI (fun q q1 q2 => (Or.inl (fsH (by omega) (by omega))))) h_mo (fun rv H1 lo1 hM hF hpo => ?_)
  obtain ⟨rfl, hw_0⟩ := hpo
  have h_mo : PR E b (modelW E b (updC mo 0 (updZ (mo 0) 0 1))) H1 := hw_0
  show V p l e (rmL 3 0 0) s m args below meth cd Q 2 H1 lo1 0 0 6 [(0, .ref b), (1, .int (zI k))] [.int (zI 0)]
  refine v_iconst X dX10_isClosed_6 7 rfl ?_
  refine v_icmp_ne X (by omega) (by omega) dX10_isClosed_7 10 14 rfl (by decide) (fun c_2 => ?_) (fun c_2 => ?_)
  · skip
    refine v_iconst X dX10_isClosed_14 15 rfl ?_
    subst hQ; exact m_zret X hr hlk hM dX10_isClosed_15 rfl (by omega) ⟨rfl, h_mo⟩
  · skip
    exfalso; omega
set_option maxHeartbeats 4000000 in
set_option maxRecDepth 20000 in
theorem c_X10_isGuilty (l : Launch) (E : Nat → Nat → Nat) (b : Nat) (mo : Nat → Int → Int) (co : Nat → Int → Int) (k : Int) (hO : OkC co) (hR : RelC co (mo 1)) (gk : Rg k) (p0 : 0 ≤ k ∧ k < co 0 0) (p1 : ¬ co 3 k = 0) : Mu l yX10_isGuilty cX10_isGuilty 2 (some .boolean) 2 0 0 E [(b, 5)] [.ref b, .int (zI k)] (fun H => PR E b (modelW E b mo) H) (fun rv H => rv = some (.int (zI (bz (¬ co 4 k = 0)))) ∧ PR E b (modelW E b (updC mo 0 (updZ (mo 0) 0 0))) H) := by
  refine Mu.start (own := RX10) rfl (by decide +kernel) (Nat.le_of_ble_eq_true rfl) ?_
  intro p e s m below meth cd args Q hQ X hr hlk hnm hM hPr
  have h_mo := hPr
  have hb0 := hO.b0
  have hbw := hO.bw
  have hr0 := hR.s0
  have hr1 := hR.s1
  refine v_aload_n X dX10_isGuilty_0 1 rfl 0 rfl ?_
  refine v_aload_n X dX10_isGuilty_1 2 rfl 0 rfl ?_
  refine v_iload_n X dX10_isGuilty_2 3 rfl 1 rfl ?_
  refine v_rdV X hM.C h_mo.1 (c_X10_isCase l E b mo co k hO hR gk) kvX10_isCase kiX10_isCase kl_X10_92 rfl rfl (As := [.int (zI k)]) rfl rfl rfl dX10_isGuilty_3 6 rfl ?_
  show V p l e (rmL 2 0 0) s m args below meth cd Q 2 s.heap [] 0 0 6 [(0, .ref b), (1, .int (zI k))] [.int (zI (bz (0 ≤ k ∧ k < co 0 0))), .ref b]
  refine v_bif_ne X dX10_isGuilty_6 9 13 rfl (by decide) (fun c_1 => ?_) (fun c_1 => ?_)
  · skip
    refine v_aload_n X dX10_isGuilty_13 14 rfl 0 rfl ?_
    refine v_iload_n X dX10_isGuilty_14 15 rfl 1 rfl ?_
    refine v_iconst X dX10_isGuilty_15 16 rfl ?_
    have hb_2 := hO.b0
    refine v_rdV X hM.C h_mo.1 (c_X10_c_2 l E b mo co k hO hR (by omega) (by omega)) kvX10_c kiX10_c kl_X10_47 rfl rfl (As := [.int (zI k), .int (zI 2)]) rfl rfl rfl dX10_isGuilty_16 19 rfl ?_
    show V p l e (rmL 2 0 0) s m args below meth cd Q 2 s.heap [] 0 0 19 [(0, .ref b), (1, .int (zI k))] [.int (zI (co 3 k)), .ref b]
    have hb_3 := hO.b3 k
    refine v_if_ne X (by omega) dX10_isGuilty_19 22 26 rfl (by decide) (fun c_4 => ?_) (fun c_4 => ?_)
    · skip
      refine v_iconst X dX10_isGuilty_26 27 rfl ?_
      refine v_putf X hM h_mo ftX10 0 rfl rfl 0 (by decide) kf_X10_30 (fun _ h => h) rfl rfl rfl (Nat.le_of_ble_eq_true rfl) (Or.inl (fsH (by omega) (by omega))) dX10_isGuilty_27 30 rfl (ws' := modelW E b (updC mo 0 (updZ (mo 0) 0 0))) rfl (fun H5 lo5 hzz hM hF h_mo => ?_)
      clear hzz
      refine v_aload_n X dX10_isGuilty_30 31 rfl 0 rfl ?_
      refine v_getf X hM.C h_mo.1 inX10 0 rfl rfl 0 (by decide) kf_X10_30 (fun _ h => h) rfl dX10_isGuilty_31 34 rfl ?_
      show V p l e (rmL 2 0 0) s m args below meth cd Q 2 H5 lo5 0 0 34 [(0, .ref b), (1, .int (zI k))] [.int (zI 0)]
      refine v_if_ne X (by omega) dX10_isGuilty_34 37 51 rfl (by decide) (fun c_6 => ?_) (fun c_6 => ?_)
      · skip
        exfalso; omega
      · skip
        refine v_aload_n X dX10_isGuilty_37 38 rfl 0 rfl ?_
        refine v_iload_n X dX10_isGuilty_38 39 rfl 1 rfl ?_
        refine v_iconst X dX10_isGuilty_39 40 rfl ?_
        refine v_rdV X hM.C h_mo.1 (c_X10_c_3 l E b (updC mo 0 (updZ (mo 0) 0 0)) co k hO hR (by omega) (by omega)) kvX10_c kiX10_c kl_X10_47 rfl rfl (As := [.int (zI k), .int (zI 3)]) rfl rfl rfl dX10_isGuilty_40 43 rfl ?_
        show V p l e (rmL 2 0 0) s m args below meth cd Q 2 H5 lo5 0 0 43 [(0, .ref b), (1, .int (zI k))] [.int (zI (co 4 k))]
        have hb_7 := hO.b4 k
        refine v_iconst X dX10_isGuilty_43 44 rfl ?_
        refine v_icmp_ne X (by omega) (by omega) dX10_isGuilty_44 47 51 rfl (by decide) (fun c_8 => ?_) (fun c_8 => ?_)
        · skip
          refine v_iconst X dX10_isGuilty_51 52 rfl ?_
          subst hQ; exact m_zret X hr hlk hM dX10_isGuilty_52 rfl (by omega) ⟨(sv (bz_f (by omega))), h_mo⟩
        · skip
          refine v_iconst X dX10_isGuilty_47 48 rfl ?_
          refine v_goto X dX10_isGuilty_48 52 (by decide) ?_
          subst hQ; exact m_zret X hr hlk hM dX10_isGuilty_52 rfl (by omega) ⟨(sv (bz_t (by omega))), h_mo⟩
    · skip
      refine v_iconst X dX10_isGuilty_22 23 rfl ?_
      refine v_goto X dX10_isGuilty_23 27 (by decide) ?_
      refine v_putf X hM h_mo ftX10 0 rfl rfl 0 (by decide) kf_X10_30 (fun _ h => h) rfl rfl rfl (Nat.le_of_ble_eq_true rfl) (Or.inl (fsH (by omega) (by omega))) dX10_isGuilty_27 30 rfl (ws' := modelW E b (updC mo 0 (updZ (mo 0) 0 2))) rfl (fun H9 lo9 hzz hM hF h_mo => ?_)
      clear hzz
      refine v_aload_n X dX10_isGuilty_30 31 rfl 0 rfl ?_
      refine v_getf X hM.C h_mo.1 inX10 0 rfl rfl 0 (by decide) kf_X10_30 (fun _ h => h) rfl dX10_isGuilty_31 34 rfl ?_
      show V p l e (rmL 2 0 0) s m args below meth cd Q 2 H9 lo9 0 0 34 [(0, .ref b), (1, .int (zI k))] [.int (zI 2)]
      refine v_if_ne X (by omega) dX10_isGuilty_34 37 51 rfl (by decide) (fun c_10 => ?_) (fun c_10 => ?_)
      · skip
        refine v_iconst X dX10_isGuilty_51 52 rfl ?_
        exfalso; omega
      · skip
        exfalso; omega
  · skip
    exfalso; first | omega | contradiction
set_option maxHeartbeats 4000000 in
set_option maxRecDepth 20000 in
theorem c_X10_isGuilty_0 (l : Launch) (E : Nat → Nat → Nat) (b : Nat) (mo : Nat → Int → Int) (co : Nat → Int → Int) (k : Int) (hO : OkC co) (hR : RelC co (mo 1)) (gk : Rg k) (nk : ¬ (0 ≤ k ∧ k < co 0 0)) : Mu l yX10_isGuilty cX10_isGuilty 2 (some .boolean) 2 0 0 E [(b, 5)] [.ref b, .int (zI k)] (fun H => PR E b (modelW E b mo) H) (fun rv H => rv = some (.int (zI 0)) ∧ PR E b (modelW E b (updC mo 0 (updZ (mo 0) 0 1))) H) := by
  refine Mu.start (own := RX10) rfl (by decide +kernel) (Nat.le_of_ble_eq_true rfl) ?_
  intro p e s m below meth cd args Q hQ X hr hlk hnm hM hPr
  have h_mo := hPr
  have hb0 := hO.b0
  have hbw := hO.bw
  have hr0 := hR.s0
  have hr1 := hR.s1
  refine v_aload_n X dX10_isGuilty_0 1 rfl 0 rfl ?_
  refine v_aload_n X dX10_isGuilty_1 2 rfl 0 rfl ?_
  refine v_iload_n X dX10_isGuilty_2 3 rfl 1 rfl ?_
  refine v_rdV X hM.C h_mo.1 (c_X10_isCase l E b mo co k hO hR gk) kvX10_isCase kiX10_isCase kl_X10_92 rfl rfl (As := [.int (zI k)]) rfl rfl rfl dX10_isGuilty_3 6 rfl ?_
  show V p l e (rmL 2 0 0) s m args below meth cd Q 2 s.heap [] 0 0 6 [(0, .ref b), (1, .int (zI k))] [.int (zI (bz (0 ≤ k ∧ k < co 0 0))), .ref b]
  refine v_bif_ne X dX10_isGuilty_6 9 13 rfl (by decide) (fun c_1 => ?_) (fun c_1 => ?_)
  · skip
    exfalso; first | omega | contradiction
  · skip
    refine v_iconst X dX10_isGuilty_9 10 rfl ?_
    refine v_goto X dX10_isGuilty_10 27 (by decide) ?_
    refine v_putf X hM h_mo ftX10 0 rfl rfl 0 (by decide) kf_X10_30 (fun _ h => h) rfl rfl rfl (Nat.le_of_ble_eq_true rfl) (Or.inl (fsH (by omega) (by omega))) dX10_isGuilty_27 30 rfl (ws' := modelW E b (updC mo 0 (updZ (mo 0) 0 1))) rfl (fun H2 lo2 hzz hM hF h_mo => ?_)
    clear hzz
    refine v_aload_n X dX10_isGuilty_30 31 rfl 0 rfl ?_
    refine v_getf X hM.C h_mo.1 inX10 0 rfl rfl 0 (by decide) kf_X10_30 (fun _ h => h) rfl dX10_isGuilty_31 34 rfl ?_
    show V p l e (rmL 2 0 0) s m args below meth cd Q 2 H2 lo2 0 0 34 [(0, .ref b), (1, .int (zI k))] [.int (zI 1)]
    refine v_if_ne X (by omega) dX10_isGuilty_34 37 51 rfl (by decide) (fun c_3 => ?_) (fun c_3 => ?_)
    · skip
      refine v_iconst X dX10_isGuilty_51 52 rfl ?_
      subst hQ; exact m_zret X hr hlk hM dX10_isGuilty_52 rfl (by omega) ⟨rfl, h_mo⟩
    · skip
      exfalso; omega
set_option maxHeartbeats 4000000 in
set_option maxRecDepth 20000 in
theorem c_X10_isGuilty_1 (l : Launch) (E : Nat → Nat → Nat) (b : Nat) (mo : Nat → Int → Int) (co : Nat → Int → Int) (k : Int) (hO : OkC co) (hR : RelC co (mo 1)) (gk : Rg k) (p0 : 0 ≤ k ∧ k < co 0 0) (nk : ¬ (¬ co 3 k = 0)) : Mu l yX10_isGuilty cX10_isGuilty 2 (some .boolean) 2 0 0 E [(b, 5)] [.ref b, .int (zI k)] (fun H => PR E b (modelW E b mo) H) (fun rv H => rv = some (.int (zI 0)) ∧ PR E b (modelW E b (updC mo 0 (updZ (mo 0) 0 2))) H) := by
  refine Mu.start (own := RX10) rfl (by decide +kernel) (Nat.le_of_ble_eq_true rfl) ?_
  intro p e s m below meth cd args Q hQ X hr hlk hnm hM hPr
  have h_mo := hPr
  have hb0 := hO.b0
  have hbw := hO.bw
  have hr0 := hR.s0
  have hr1 := hR.s1
  refine v_aload_n X dX10_isGuilty_0 1 rfl 0 rfl ?_
  refine v_aload_n X dX10_isGuilty_1 2 rfl 0 rfl ?_
  refine v_iload_n X dX10_isGuilty_2 3 rfl 1 rfl ?_
  refine v_rdV X hM.C h_mo.1 (c_X10_isCase l E b mo co k hO hR gk) kvX10_isCase kiX10_isCase kl_X10_92 rfl rfl (As := [.int (zI k)]) rfl rfl rfl dX10_isGuilty_3 6 rfl ?_
  show V p l e (rmL 2 0 0) s m args below meth cd Q 2 s.heap [] 0 0 6 [(0, .ref b), (1, .int (zI k))] [.int (zI (bz (0 ≤ k ∧ k < co 0 0))), .ref b]
  refine v_bif_ne X dX10_isGuilty_6 9 13 rfl (by decide) (fun c_1 => ?_) (fun c_1 => ?_)
  · skip
    refine v_aload_n X dX10_isGuilty_13 14 rfl 0 rfl ?_
    refine v_iload_n X dX10_isGuilty_14 15 rfl 1 rfl ?_
    refine v_iconst X dX10_isGuilty_15 16 rfl ?_
    have hb_2 := hO.b0
    refine v_rdV X hM.C h_mo.1 (c_X10_c_2 l E b mo co k hO hR (by omega) (by omega)) kvX10_c kiX10_c kl_X10_47 rfl rfl (As := [.int (zI k), .int (zI 2)]) rfl rfl rfl dX10_isGuilty_16 19 rfl ?_
    show V p l e (rmL 2 0 0) s m args below meth cd Q 2 s.heap [] 0 0 19 [(0, .ref b), (1, .int (zI k))] [.int (zI (co 3 k)), .ref b]
    have hb_3 := hO.b3 k
    refine v_if_ne X (by omega) dX10_isGuilty_19 22 26 rfl (by decide) (fun c_4 => ?_) (fun c_4 => ?_)
    · skip
      refine v_iconst X dX10_isGuilty_26 27 rfl ?_
      refine v_putf X hM h_mo ftX10 0 rfl rfl 0 (by decide) kf_X10_30 (fun _ h => h) rfl rfl rfl (Nat.le_of_ble_eq_true rfl) (Or.inl (fsH (by omega) (by omega))) dX10_isGuilty_27 30 rfl (ws' := modelW E b (updC mo 0 (updZ (mo 0) 0 0))) rfl (fun H5 lo5 hzz hM hF h_mo => ?_)
      clear hzz
      refine v_aload_n X dX10_isGuilty_30 31 rfl 0 rfl ?_
      refine v_getf X hM.C h_mo.1 inX10 0 rfl rfl 0 (by decide) kf_X10_30 (fun _ h => h) rfl dX10_isGuilty_31 34 rfl ?_
      show V p l e (rmL 2 0 0) s m args below meth cd Q 2 H5 lo5 0 0 34 [(0, .ref b), (1, .int (zI k))] [.int (zI 0)]
      refine v_if_ne X (by omega) dX10_isGuilty_34 37 51 rfl (by decide) (fun c_6 => ?_) (fun c_6 => ?_)
      · skip
        exfalso; omega
      · skip
        refine v_aload_n X dX10_isGuilty_37 38 rfl 0 rfl ?_
        refine v_iload_n X dX10_isGuilty_38 39 rfl 1 rfl ?_
        refine v_iconst X dX10_isGuilty_39 40 rfl ?_
        refine v_rdV X hM.C h_mo.1 (c_X10_c_3 l E b (updC mo 0 (updZ (mo 0) 0 0)) co k hO hR (by omega) (by omega)) kvX10_c kiX10_c kl_X10_47 rfl rfl (As := [.int (zI k), .int (zI 3)]) rfl rfl rfl dX10_isGuilty_40 43 rfl ?_
        show V p l e (rmL 2 0 0) s m args below meth cd Q 2 H5 lo5 0 0 43 [(0, .ref b), (1, .int (zI k))] [.int (zI (co 4 k))]
        have hb_7 := hO.b4 k
        refine v_iconst X dX10_isGuilty_43 44 rfl ?_
        refine v_icmp_ne X (by omega) (by omega) dX10_isGuilty_44 47 51 rfl (by decide) (fun c_8 => ?_) (fun c_8 => ?_)
        · skip
          refine v_iconst X dX10_isGuilty_51 52 rfl ?_
          exfalso; omega
        · skip
          refine v_iconst X dX10_isGuilty_47 48 rfl ?_
          refine v_goto X dX10_isGuilty_48 52 (by decide) ?_
          exfalso; omega
    · skip
      refine v_iconst X dX10_isGuilty_22 23 rfl ?_
      refine v_goto X dX10_isGuilty_23 27 (by decide) ?_
      refine v_putf X hM h_mo ftX10 0 rfl rfl 0 (by decide) kf_X10_30 (fun _ h => h) rfl rfl rfl (Nat.le_of_ble_eq_true rfl) (Or.inl (fsH (by omega) (by omega))) dX10_isGuilty_27 30 rfl (ws' := modelW E b (updC mo 0 (updZ (mo 0) 0 2))) rfl (fun H9 lo9 hzz hM hF h_mo => ?_)
      clear hzz
      refine v_aload_n X dX10_isGuilty_30 31 rfl 0 rfl ?_
      refine v_getf X hM.C h_mo.1 inX10 0 rfl rfl 0 (by decide) kf_X10_30 (fun _ h => h) rfl dX10_isGuilty_31 34 rfl ?_
      show V p l e (rmL 2 0 0) s m args below meth cd Q 2 H9 lo9 0 0 34 [(0, .ref b), (1, .int (zI k))] [.int (zI 2)]
      refine v_if_ne X (by omega) dX10_isGuilty_34 37 51 rfl (by decide) (fun c_10 => ?_) (fun c_10 => ?_)
      · skip
        refine v_iconst X dX10_isGuilty_51 52 rfl ?_
        subst hQ; exact m_zret X hr hlk hM dX10_isGuilty_52 rfl (by omega) ⟨rfl, h_mo⟩
      · skip
        exfalso; omega
  · skip
    exfalso; first | omega | contradiction
set_option maxHeartbeats 4000000 in
set_option maxRecDepth 20000 in
theorem c_X10_witnessAt (l : Launch) (E : Nat → Nat → Nat) (b : Nat) (mo : Nat → Int → Int) (co : Nat → Int → Int) (k : Int) (q : Int) (hO : OkC co) (hR : RelC co (mo 1)) (gk : Rg k) (gq : Rg q) (p0 : 0 ≤ k ∧ k < co 0 0) (p1 : 0 ≤ q ∧ q < co 6 k) : Mu l yX10_witnessAt cX10_witnessAt 3 (some .int) 2 0 0 E [(b, 5)] [.ref b, .int (zI k), .int (zI q)] (fun H => PR E b (modelW E b mo) H) (fun rv H => rv = some (.int (zI (co 7 (k * 6 + q)))) ∧ PR E b (modelW E b (updC mo 0 (updZ (mo 0) 0 0))) H) := by
  refine Mu.start (own := RX10) rfl (by decide +kernel) (Nat.le_of_ble_eq_true rfl) ?_
  intro p e s m below meth cd args Q hQ X hr hlk hnm hM hPr
  have h_mo := hPr
  have hb0 := hO.b0
  have hbw := hO.bw
  have hr0 := hR.s0
  have hr1 := hR.s1
  have hb6 := hO.b6 k
  refine v_aload_n X dX10_witnessAt_0 1 rfl 0 rfl ?_
  refine v_aload_n X dX10_witnessAt_1 2 rfl 0 rfl ?_
  refine v_iload_n X dX10_witnessAt_2 3 rfl 1 rfl ?_
  refine v_rdV X hM.C h_mo.1 (c_X10_isCase l E b mo co k hO hR gk) kvX10_isCase kiX10_isCase kl_X10_92 rfl rfl (As := [.int (zI k)]) rfl rfl rfl dX10_witnessAt_3 6 rfl ?_
  show V p l e (rmL 2 0 0) s m args below meth cd Q 3 s.heap [] 0 0 6 [(0, .ref b), (1, .int (zI k)), (2, .int (zI q))] [.int (zI (bz (0 ≤ k ∧ k < co 0 0))), .ref b]
  refine v_bif_ne X dX10_witnessAt_6 9 13 rfl (by decide) (fun c_1 => ?_) (fun c_1 => ?_)
  · skip
    refine v_iload_n X dX10_witnessAt_13 14 rfl 2 rfl ?_
    refine v_iconst X dX10_witnessAt_14 15 rfl ?_
    refine v_aload_n X dX10_witnessAt_15 16 rfl 0 rfl ?_
    refine v_iload_n X dX10_witnessAt_16 17 rfl 1 rfl ?_
    refine v_iconst X dX10_witnessAt_17 18 rfl ?_
    have hb_2 := hO.b0
    refine v_rdV X hM.C h_mo.1 (c_X10_c_5 l E b mo co k hO hR (by omega) (by omega)) kvX10_c kiX10_c kl_X10_47 rfl rfl (As := [.int (zI k), .int (zI 5)]) rfl rfl rfl dX10_witnessAt_18 21 rfl ?_
    show V p l e (rmL 2 0 0) s m args below meth cd Q 3 s.heap [] 0 0 21 [(0, .ref b), (1, .int (zI k)), (2, .int (zI q))] [.int (zI (co 6 k)), .int (zI 0), .int (zI q), .ref b]
    have hb_3 := hO.b6 k
    refine v_iconst X dX10_witnessAt_21 22 rfl ?_
    refine v_isub X dX10_witnessAt_22 23 rfl ?_
    refine v_rdS X hM.C (ws0 E s.heap) (c_X10_in l E q 0 (co 6 k - 1) gq (by omega) (by omega)) kvX10_in ksX10_in kl_X10_43 (As := [.int (zI q), .int (zI 0), .int (zI (co 6 k - 1))]) rfl rfl rfl dX10_witnessAt_23 26 rfl ?_
    show V p l e (rmL 2 0 0) s m args below meth cd Q 3 s.heap [] 0 0 26 [(0, .ref b), (1, .int (zI k)), (2, .int (zI q))] [.int (zI (bz (0 ≤ q ∧ q ≤ (co 6 k - 1)))), .ref b]
    refine v_bif_eq X dX10_witnessAt_26 29 33 rfl (by decide) (fun c_4 => ?_) (fun c_4 => ?_)
    · skip
      refine v_iconst X dX10_witnessAt_33 34 rfl ?_
      refine v_putf X hM h_mo ftX10 0 rfl rfl 0 (by decide) kf_X10_30 (fun _ h => h) rfl rfl rfl (Nat.le_of_ble_eq_true rfl) (Or.inl (fsH (by omega) (by omega))) dX10_witnessAt_34 37 rfl (ws' := modelW E b (updC mo 0 (updZ (mo 0) 0 2))) rfl (fun H5 lo5 hzz hM hF h_mo => ?_)
      clear hzz
      refine v_aload_n X dX10_witnessAt_37 38 rfl 0 rfl ?_
      refine v_getf X hM.C h_mo.1 inX10 0 rfl rfl 0 (by decide) kf_X10_30 (fun _ h => h) rfl dX10_witnessAt_38 41 rfl ?_
      show V p l e (rmL 2 0 0) s m args below meth cd Q 3 H5 lo5 0 0 41 [(0, .ref b), (1, .int (zI k)), (2, .int (zI q))] [.int (zI 2)]
      refine v_if_ne X (by omega) dX10_witnessAt_41 44 54 rfl (by decide) (fun c_6 => ?_) (fun c_6 => ?_)
      · skip
        refine v_iconst X dX10_witnessAt_54 55 rfl ?_
        exfalso; omega
      · skip
        exfalso; omega
    · skip
      refine v_iconst X dX10_witnessAt_29 30 rfl ?_
      refine v_goto X dX10_witnessAt_30 34 (by decide) ?_
      refine v_putf X hM h_mo ftX10 0 rfl rfl 0 (by decide) kf_X10_30 (fun _ h => h) rfl rfl rfl (Nat.le_of_ble_eq_true rfl) (Or.inl (fsH (by omega) (by omega))) dX10_witnessAt_34 37 rfl (ws' := modelW E b (updC mo 0 (updZ (mo 0) 0 0))) rfl (fun H7 lo7 hzz hM hF h_mo => ?_)
      clear hzz
      refine v_aload_n X dX10_witnessAt_37 38 rfl 0 rfl ?_
      refine v_getf X hM.C h_mo.1 inX10 0 rfl rfl 0 (by decide) kf_X10_30 (fun _ h => h) rfl dX10_witnessAt_38 41 rfl ?_
      show V p l e (rmL 2 0 0) s m args below meth cd Q 3 H7 lo7 0 0 41 [(0, .ref b), (1, .int (zI k)), (2, .int (zI q))] [.int (zI 0)]
      refine v_if_ne X (by omega) dX10_witnessAt_41 44 54 rfl (by decide) (fun c_8 => ?_) (fun c_8 => ?_)
      · skip
        exfalso; omega
      · skip
        refine v_aload_n X dX10_witnessAt_44 45 rfl 0 rfl ?_
        refine v_iload_n X dX10_witnessAt_45 46 rfl 1 rfl ?_
        refine v_iload_n X dX10_witnessAt_46 47 rfl 2 rfl ?_
        refine v_iconst X dX10_witnessAt_47 48 rfl ?_
        refine v_rdV X hM.C h_mo.1 (c_X10_t_0 l E b (updC mo 0 (updZ (mo 0) 0 0)) co k q hO hR (by omega) (by omega) (by omega) (by omega)) kvX10_t kiX10_t kl_X10_51 rfl rfl (As := [.int (zI k), .int (zI q), .int (zI 0)]) rfl rfl rfl dX10_witnessAt_48 51 rfl ?_
        show V p l e (rmL 2 0 0) s m args below meth cd Q 3 H7 lo7 0 0 51 [(0, .ref b), (1, .int (zI k)), (2, .int (zI q))] [.int (zI (co 7 (k * 6 + q)))]
        have hb_9 := hO.b7 (k * 6 + q)
        refine v_goto X dX10_witnessAt_51 55 (by decide) ?_
        subst hQ; exact m_iret X hr hlk hM dX10_witnessAt_55 rfl ⟨rfl, h_mo⟩
  · skip
    exfalso; first | omega | contradiction
set_option maxHeartbeats 4000000 in
set_option maxRecDepth 20000 in
theorem c_X10_witnessAt_0 (l : Launch) (E : Nat → Nat → Nat) (b : Nat) (mo : Nat → Int → Int) (co : Nat → Int → Int) (k : Int) (q : Int) (hO : OkC co) (hR : RelC co (mo 1)) (gk : Rg k) (gq : Rg q) (nk : ¬ (0 ≤ k ∧ k < co 0 0)) : Mu l yX10_witnessAt cX10_witnessAt 3 (some .int) 2 0 0 E [(b, 5)] [.ref b, .int (zI k), .int (zI q)] (fun H => PR E b (modelW E b mo) H) (fun rv H => rv = some (.int (zI 0)) ∧ PR E b (modelW E b (updC mo 0 (updZ (mo 0) 0 1))) H) := by
  refine Mu.start (own := RX10) rfl (by decide +kernel) (Nat.le_of_ble_eq_true rfl) ?_
  intro p e s m below meth cd args Q hQ X hr hlk hnm hM hPr
  have h_mo := hPr
  have hb0 := hO.b0
  have hbw := hO.bw
  have hr0 := hR.s0
  have hr1 := hR.s1
  refine v_aload_n X dX10_witnessAt_0 1 rfl 0 rfl ?_
  refine v_aload_n X dX10_witnessAt_1 2 rfl 0 rfl ?_
  refine v_iload_n X dX10_witnessAt_2 3 rfl 1 rfl ?_
  refine v_rdV X hM.C h_mo.1 (c_X10_isCase l E b mo co k hO hR gk) kvX10_isCase kiX10_isCase kl_X10_92 rfl rfl (As := [.int (zI k)]) rfl rfl rfl dX10_witnessAt_3 6 rfl ?_
  show V p l e (rmL 2 0 0) s m args below meth cd Q 3 s.heap [] 0 0 6 [(0, .ref b), (1, .int (zI k)), (2, .int (zI q))] [.int (zI (bz (0 ≤ k ∧ k < co 0 0))), .ref b]
  refine v_bif_ne X dX10_witnessAt_6 9 13 rfl (by decide) (fun c_1 => ?_) (fun c_1 => ?_)
  · skip
    exfalso; first | omega | contradiction
  · skip
    refine v_iconst X dX10_witnessAt_9 10 rfl ?_
    refine v_goto X dX10_witnessAt_10 34 (by decide) ?_
    refine v_putf X hM h_mo ftX10 0 rfl rfl 0 (by decide) kf_X10_30 (fun _ h => h) rfl rfl rfl (Nat.le_of_ble_eq_true rfl) (Or.inl (fsH (by omega) (by omega))) dX10_witnessAt_34 37 rfl (ws' := modelW E b (updC mo 0 (updZ (mo 0) 0 1))) rfl (fun H2 lo2 hzz hM hF h_mo => ?_)
    clear hzz
    refine v_aload_n X dX10_witnessAt_37 38 rfl 0 rfl ?_
    refine v_getf X hM.C h_mo.1 inX10 0 rfl rfl 0 (by decide) kf_X10_30 (fun _ h => h) rfl dX10_witnessAt_38 41 rfl ?_
    show V p l e (rmL 2 0 0) s m args below meth cd Q 3 H2 lo2 0 0 41 [(0, .ref b), (1, .int (zI k)), (2, .int (zI q))] [.int (zI 1)]
    refine v_if_ne X (by omega) dX10_witnessAt_41 44 54 rfl (by decide) (fun c_3 => ?_) (fun c_3 => ?_)
    · skip
      refine v_iconst X dX10_witnessAt_54 55 rfl ?_
      subst hQ; exact m_iret X hr hlk hM dX10_witnessAt_55 rfl ⟨rfl, h_mo⟩
    · skip
      exfalso; omega
set_option maxHeartbeats 4000000 in
set_option maxRecDepth 20000 in
theorem c_X10_witnessAt_1 (l : Launch) (E : Nat → Nat → Nat) (b : Nat) (mo : Nat → Int → Int) (co : Nat → Int → Int) (k : Int) (q : Int) (hO : OkC co) (hR : RelC co (mo 1)) (gk : Rg k) (gq : Rg q) (p0 : 0 ≤ k ∧ k < co 0 0) (nk : ¬ (0 ≤ q ∧ q < co 6 k)) : Mu l yX10_witnessAt cX10_witnessAt 3 (some .int) 2 0 0 E [(b, 5)] [.ref b, .int (zI k), .int (zI q)] (fun H => PR E b (modelW E b mo) H) (fun rv H => rv = some (.int (zI 0)) ∧ PR E b (modelW E b (updC mo 0 (updZ (mo 0) 0 2))) H) := by
  refine Mu.start (own := RX10) rfl (by decide +kernel) (Nat.le_of_ble_eq_true rfl) ?_
  intro p e s m below meth cd args Q hQ X hr hlk hnm hM hPr
  have h_mo := hPr
  have hb0 := hO.b0
  have hbw := hO.bw
  have hr0 := hR.s0
  have hr1 := hR.s1
  have hb6 := hO.b6 k
  refine v_aload_n X dX10_witnessAt_0 1 rfl 0 rfl ?_
  refine v_aload_n X dX10_witnessAt_1 2 rfl 0 rfl ?_
  refine v_iload_n X dX10_witnessAt_2 3 rfl 1 rfl ?_
  refine v_rdV X hM.C h_mo.1 (c_X10_isCase l E b mo co k hO hR gk) kvX10_isCase kiX10_isCase kl_X10_92 rfl rfl (As := [.int (zI k)]) rfl rfl rfl dX10_witnessAt_3 6 rfl ?_
  show V p l e (rmL 2 0 0) s m args below meth cd Q 3 s.heap [] 0 0 6 [(0, .ref b), (1, .int (zI k)), (2, .int (zI q))] [.int (zI (bz (0 ≤ k ∧ k < co 0 0))), .ref b]
  refine v_bif_ne X dX10_witnessAt_6 9 13 rfl (by decide) (fun c_1 => ?_) (fun c_1 => ?_)
  · skip
    refine v_iload_n X dX10_witnessAt_13 14 rfl 2 rfl ?_
    refine v_iconst X dX10_witnessAt_14 15 rfl ?_
    refine v_aload_n X dX10_witnessAt_15 16 rfl 0 rfl ?_
    refine v_iload_n X dX10_witnessAt_16 17 rfl 1 rfl ?_
    refine v_iconst X dX10_witnessAt_17 18 rfl ?_
    have hb_2 := hO.b0
    refine v_rdV X hM.C h_mo.1 (c_X10_c_5 l E b mo co k hO hR (by omega) (by omega)) kvX10_c kiX10_c kl_X10_47 rfl rfl (As := [.int (zI k), .int (zI 5)]) rfl rfl rfl dX10_witnessAt_18 21 rfl ?_
    show V p l e (rmL 2 0 0) s m args below meth cd Q 3 s.heap [] 0 0 21 [(0, .ref b), (1, .int (zI k)), (2, .int (zI q))] [.int (zI (co 6 k)), .int (zI 0), .int (zI q), .ref b]
    have hb_3 := hO.b6 k
    refine v_iconst X dX10_witnessAt_21 22 rfl ?_
    refine v_isub X dX10_witnessAt_22 23 rfl ?_
    refine v_rdS X hM.C (ws0 E s.heap) (c_X10_in l E q 0 (co 6 k - 1) gq (by omega) (by omega)) kvX10_in ksX10_in kl_X10_43 (As := [.int (zI q), .int (zI 0), .int (zI (co 6 k - 1))]) rfl rfl rfl dX10_witnessAt_23 26 rfl ?_
    show V p l e (rmL 2 0 0) s m args below meth cd Q 3 s.heap [] 0 0 26 [(0, .ref b), (1, .int (zI k)), (2, .int (zI q))] [.int (zI (bz (0 ≤ q ∧ q ≤ (co 6 k - 1)))), .ref b]
    refine v_bif_eq X dX10_witnessAt_26 29 33 rfl (by decide) (fun c_4 => ?_) (fun c_4 => ?_)
    · skip
      refine v_iconst X dX10_witnessAt_33 34 rfl ?_
      refine v_putf X hM h_mo ftX10 0 rfl rfl 0 (by decide) kf_X10_30 (fun _ h => h) rfl rfl rfl (Nat.le_of_ble_eq_true rfl) (Or.inl (fsH (by omega) (by omega))) dX10_witnessAt_34 37 rfl (ws' := modelW E b (updC mo 0 (updZ (mo 0) 0 2))) rfl (fun H5 lo5 hzz hM hF h_mo => ?_)
      clear hzz
      refine v_aload_n X dX10_witnessAt_37 38 rfl 0 rfl ?_
      refine v_getf X hM.C h_mo.1 inX10 0 rfl rfl 0 (by decide) kf_X10_30 (fun _ h => h) rfl dX10_witnessAt_38 41 rfl ?_
      show V p l e (rmL 2 0 0) s m args below meth cd Q 3 H5 lo5 0 0 41 [(0, .ref b), (1, .int (zI k)), (2, .int (zI q))] [.int (zI 2)]
      refine v_if_ne X (by omega) dX10_witnessAt_41 44 54 rfl (by decide) (fun c_6 => ?_) (fun c_6 => ?_)
      · skip
        refine v_iconst X dX10_witnessAt_54 55 rfl ?_
        subst hQ; exact m_iret X hr hlk hM dX10_witnessAt_55 rfl ⟨rfl, h_mo⟩
      · skip
        exfalso; omega
    · skip
      refine v_iconst X dX10_witnessAt_29 30 rfl ?_
      refine v_goto X dX10_witnessAt_30 34 (by decide) ?_
      refine v_putf X hM h_mo ftX10 0 rfl rfl 0 (by decide) kf_X10_30 (fun _ h => h) rfl rfl rfl (Nat.le_of_ble_eq_true rfl) (Or.inl (fsH (by omega) (by omega))) dX10_witnessAt_34 37 rfl (ws' := modelW E b (updC mo 0 (updZ (mo 0) 0 0))) rfl (fun H7 lo7 hzz hM hF h_mo => ?_)
      clear hzz
      refine v_aload_n X dX10_witnessAt_37 38 rfl 0 rfl ?_
      refine v_getf X hM.C h_mo.1 inX10 0 rfl rfl 0 (by decide) kf_X10_30 (fun _ h => h) rfl dX10_witnessAt_38 41 rfl ?_
      show V p l e (rmL 2 0 0) s m args below meth cd Q 3 H7 lo7 0 0 41 [(0, .ref b), (1, .int (zI k)), (2, .int (zI q))] [.int (zI 0)]
      refine v_if_ne X (by omega) dX10_witnessAt_41 44 54 rfl (by decide) (fun c_8 => ?_) (fun c_8 => ?_)
      · skip
        exfalso; omega
      · skip
        refine v_aload_n X dX10_witnessAt_44 45 rfl 0 rfl ?_
        refine v_iload_n X dX10_witnessAt_45 46 rfl 1 rfl ?_
        refine v_iload_n X dX10_witnessAt_46 47 rfl 2 rfl ?_
        refine v_iconst X dX10_witnessAt_47 48 rfl ?_
        refine v_rdV X hM.C h_mo.1 (c_X10_t_0 l E b (updC mo 0 (updZ (mo 0) 0 0)) co k q hO hR (by omega) (by omega) (by omega) (by omega)) kvX10_t kiX10_t kl_X10_51 rfl rfl (As := [.int (zI k), .int (zI q), .int (zI 0)]) rfl rfl rfl dX10_witnessAt_48 51 rfl ?_
        show V p l e (rmL 2 0 0) s m args below meth cd Q 3 H7 lo7 0 0 51 [(0, .ref b), (1, .int (zI k)), (2, .int (zI q))] [.int (zI (co 7 (k * 6 + q)))]
        have hb_9 := hO.b7 (k * 6 + q)
        refine v_goto X dX10_witnessAt_51 55 (by decide) ?_
        exfalso; omega
  · skip
    exfalso; first | omega | contradiction
set_option maxHeartbeats 4000000 in
set_option maxRecDepth 20000 in
theorem c_X10_hasTestified (l : Launch) (E : Nat → Nat → Nat) (b : Nat) (mo : Nat → Int → Int) (co : Nat → Int → Int) (k : Int) (w : Int) (hO : OkC co) (hR : RelC co (mo 1)) (hI : TsI co) (gk : Rg k) (gw : Rg w) (p0 : 0 ≤ k ∧ k < co 0 0) (p1 : 0 ≤ w ∧ w < co 0 1) : Mu l yX10_hasTestified cX10_hasTestified 3 (some .boolean) 2 0 0 E [(b, 5)] [.ref b, .int (zI k), .int (zI w)] (fun H => PR E b (modelW E b mo) H) (fun rv H => rv = some (.int (zI (bz (0 < co 9 (k * 8 + w))))) ∧ PR E b (modelW E b (updC mo 0 (updZ (mo 0) 0 0))) H) := by
  refine Mu.start (own := RX10) rfl (by decide +kernel) (Nat.le_of_ble_eq_true rfl) ?_
  intro p e s m below meth cd args Q hQ X hr hlk hnm hM hPr
  have h_mo := hPr
  have hb0 := hO.b0
  have hbw := hO.bw
  have hr0 := hR.s0
  have hr1 := hR.s1
  have hsp := swC_iff (co := co) (k := k) (w := w) hO hI (by omega) (by omega) (by omega) (by omega)
  refine v_aload_n X dX10_hasTestified_0 1 rfl 0 rfl ?_
  refine v_aload_n X dX10_hasTestified_1 2 rfl 0 rfl ?_
  refine v_iload_n X dX10_hasTestified_2 3 rfl 1 rfl ?_
  refine v_rdV X hM.C h_mo.1 (c_X10_isCase l E b mo co k hO hR gk) kvX10_isCase kiX10_isCase kl_X10_92 rfl rfl (As := [.int (zI k)]) rfl rfl rfl dX10_hasTestified_3 6 rfl ?_
  show V p l e (rmL 2 0 0) s m args below meth cd Q 3 s.heap [] 0 0 6 [(0, .ref b), (1, .int (zI k)), (2, .int (zI w))] [.int (zI (bz (0 ≤ k ∧ k < co 0 0))), .ref b]
  refine v_bif_eq X dX10_hasTestified_6 9 21 rfl (by decide) (fun c_1 => ?_) (fun c_1 => ?_)
  · skip
    exfalso; first | omega | contradiction
  · skip
    refine v_aload_n X dX10_hasTestified_9 10 rfl 0 rfl ?_
    refine v_iload_n X dX10_hasTestified_10 11 rfl 2 rfl ?_
    refine v_rdV X hM.C h_mo.1 (c_X10_isWitness l E b mo co w hO hR gw) kvX10_isWitness kiX10_isWitness kl_X10_95 rfl rfl (As := [.int (zI w)]) rfl rfl rfl dX10_hasTestified_11 14 rfl ?_
    show V p l e (rmL 2 0 0) s m args below meth cd Q 3 s.heap [] 0 0 14 [(0, .ref b), (1, .int (zI k)), (2, .int (zI w))] [.int (zI (bz (0 ≤ w ∧ w < co 0 1))), .ref b]
    refine v_bif_eq X dX10_hasTestified_14 17 21 rfl (by decide) (fun c_2 => ?_) (fun c_2 => ?_)
    · skip
      exfalso; first | omega | contradiction
    · skip
      refine v_iconst X dX10_hasTestified_17 18 rfl ?_
      refine v_goto X dX10_hasTestified_18 22 (by decide) ?_
      refine v_muV X hM (h_mo.1) (c_X10_isFine_1 l E b mo) kvX10_isFine kiX10_isFine kl_X10_124 (q0 := 0) rfl rfl (As := [.int (zI 1)]) rfl rfl rfl dX10_hasTestified_22 25 rfl (k' := 0) (n' := 0) rfl rfl (fsI (fun q q1 q2 => (Or.inl (fsH (by omega) (by omega))))) h_mo (fun rv H3 lo3 hM hF hpo => ?_)
      obtain ⟨rfl, hw_0⟩ := hpo
      have h_mo : PR E b (modelW E b (updC mo 0 (updZ (mo 0) 0 0))) H3 := hw_0
      show V p l e (rmL 2 0 0) s m args below meth cd Q 3 H3 lo3 0 0 25 [(0, .ref b), (1, .int (zI k)), (2, .int (zI w))] [.int (zI 1)]
      refine v_if_eq X (by omega) dX10_hasTestified_25 28 41 rfl (by decide) (fun c_4 => ?_) (fun c_4 => ?_)
      · skip
        exfalso; omega
      · skip
        refine v_aload_n X dX10_hasTestified_28 29 rfl 0 rfl ?_
        refine v_iload_n X dX10_hasTestified_29 30 rfl 1 rfl ?_
        refine v_iload_n X dX10_hasTestified_30 31 rfl 2 rfl ?_
        have hb_5 := hO.b0
        refine v_rdV X hM.C h_mo.1 (c_X10_spokenBy l E b (updC mo 0 (updZ (mo 0) 0 0)) co k w hO hR (by omega) (by omega) gw) kvX10_spokenBy kiX10_spokenBy kl_X10_98 rfl rfl (As := [.int (zI k), .int (zI w)]) rfl rfl rfl dX10_hasTestified_31 34 rfl ?_
        show V p l e (rmL 2 0 0) s m args below meth cd Q 3 H3 lo3 0 0 34 [(0, .ref b), (1, .int (zI k)), (2, .int (zI w))] [.int (zI (swC co k w))]
        have hf_6 := swC_b hO k w
        refine v_if_lt X (by omega) dX10_hasTestified_34 37 41 rfl (by decide) (fun c_7 => ?_) (fun c_7 => ?_)
        · skip
          refine v_iconst X dX10_hasTestified_41 42 rfl ?_
          subst hQ; exact m_zret X hr hlk hM dX10_hasTestified_42 rfl (by omega) ⟨(sv (bz_f (by omega))), h_mo⟩
        · skip
          refine v_iconst X dX10_hasTestified_37 38 rfl ?_
          refine v_goto X dX10_hasTestified_38 42 (by decide) ?_
          subst hQ; exact m_zret X hr hlk hM dX10_hasTestified_42 rfl (by omega) ⟨(sv (bz_t (by omega))), h_mo⟩
set_option maxHeartbeats 4000000 in
set_option maxRecDepth 20000 in
theorem c_X10_hasTestified_0 (l : Launch) (E : Nat → Nat → Nat) (b : Nat) (mo : Nat → Int → Int) (co : Nat → Int → Int) (k : Int) (w : Int) (hO : OkC co) (hR : RelC co (mo 1)) (hI : TsI co) (gk : Rg k) (gw : Rg w) (nk : ¬ (0 ≤ k ∧ k < co 0 0)) : Mu l yX10_hasTestified cX10_hasTestified 3 (some .boolean) 2 0 0 E [(b, 5)] [.ref b, .int (zI k), .int (zI w)] (fun H => PR E b (modelW E b mo) H) (fun rv H => rv = some (.int (zI 0)) ∧ PR E b (modelW E b (updC mo 0 (updZ (mo 0) 0 1))) H) := by
  refine Mu.start (own := RX10) rfl (by decide +kernel) (Nat.le_of_ble_eq_true rfl) ?_
  intro p e s m below meth cd args Q hQ X hr hlk hnm hM hPr
  have h_mo := hPr
  have hb0 := hO.b0
  have hbw := hO.bw
  have hr0 := hR.s0
  have hr1 := hR.s1
  refine v_aload_n X dX10_hasTestified_0 1 rfl 0 rfl ?_
  refine v_aload_n X dX10_hasTestified_1 2 rfl 0 rfl ?_
  refine v_iload_n X dX10_hasTestified_2 3 rfl 1 rfl ?_
  refine v_rdV X hM.C h_mo.1 (c_X10_isCase l E b mo co k hO hR gk) kvX10_isCase kiX10_isCase kl_X10_92 rfl rfl (As := [.int (zI k)]) rfl rfl rfl dX10_hasTestified_3 6 rfl ?_
  show V p l e (rmL 2 0 0) s m args below meth cd Q 3 s.heap [] 0 0 6 [(0, .ref b), (1, .int (zI k)), (2, .int (zI w))] [.int (zI (bz (0 ≤ k ∧ k < co 0 0))), .ref b]
  refine v_bif_eq X dX10_hasTestified_6 9 21 rfl (by decide) (fun c_1 => ?_) (fun c_1 => ?_)
  · skip
    refine v_iconst X dX10_hasTestified_21 22 rfl ?_
    refine v_muV X hM (h_mo.1) (c_X10_isFine_0 l E b mo) kvX10_isFine kiX10_isFine kl_X10_124 (q0 := 0) rfl rfl (As := [.int (zI 0)]) rfl rfl rfl dX10_hasTestified_22 25 rfl (k' := 0) (n' := 0) rfl rfl (fsI (fun q q1 q2 => (Or.inl (fsH (by omega) (by omega))))) h_mo (fun rv H2 lo2 hM hF hpo => ?_)
    obtain ⟨rfl, hw_0⟩ := hpo
    have h_mo : PR E b (modelW E b (updC mo 0 (updZ (mo 0) 0 1))) H2 := hw_0
    show V p l e (rmL 2 0 0) s m args below meth cd Q 3 H2 lo2 0 0 25 [(0, .ref b), (1, .int (zI k)), (2, .int (zI w))] [.int (zI 0)]
    refine v_if_eq X (by omega) dX10_hasTestified_25 28 41 rfl (by decide) (fun c_3 => ?_) (fun c_3 => ?_)
    · skip
      refine v_iconst X dX10_hasTestified_41 42 rfl ?_
      subst hQ; exact m_zret X hr hlk hM dX10_hasTestified_42 rfl (by omega) ⟨rfl, h_mo⟩
    · skip
      exfalso; omega
  · skip
    exfalso; first | omega | contradiction
set_option maxHeartbeats 4000000 in
set_option maxRecDepth 20000 in
theorem c_X10_hasTestified_1 (l : Launch) (E : Nat → Nat → Nat) (b : Nat) (mo : Nat → Int → Int) (co : Nat → Int → Int) (k : Int) (w : Int) (hO : OkC co) (hR : RelC co (mo 1)) (hI : TsI co) (gk : Rg k) (gw : Rg w) (p0 : 0 ≤ k ∧ k < co 0 0) (nk : ¬ (0 ≤ w ∧ w < co 0 1)) : Mu l yX10_hasTestified cX10_hasTestified 3 (some .boolean) 2 0 0 E [(b, 5)] [.ref b, .int (zI k), .int (zI w)] (fun H => PR E b (modelW E b mo) H) (fun rv H => rv = some (.int (zI 0)) ∧ PR E b (modelW E b (updC mo 0 (updZ (mo 0) 0 1))) H) := by
  refine Mu.start (own := RX10) rfl (by decide +kernel) (Nat.le_of_ble_eq_true rfl) ?_
  intro p e s m below meth cd args Q hQ X hr hlk hnm hM hPr
  have h_mo := hPr
  have hb0 := hO.b0
  have hbw := hO.bw
  have hr0 := hR.s0
  have hr1 := hR.s1
  refine v_aload_n X dX10_hasTestified_0 1 rfl 0 rfl ?_
  refine v_aload_n X dX10_hasTestified_1 2 rfl 0 rfl ?_
  refine v_iload_n X dX10_hasTestified_2 3 rfl 1 rfl ?_
  refine v_rdV X hM.C h_mo.1 (c_X10_isCase l E b mo co k hO hR gk) kvX10_isCase kiX10_isCase kl_X10_92 rfl rfl (As := [.int (zI k)]) rfl rfl rfl dX10_hasTestified_3 6 rfl ?_
  show V p l e (rmL 2 0 0) s m args below meth cd Q 3 s.heap [] 0 0 6 [(0, .ref b), (1, .int (zI k)), (2, .int (zI w))] [.int (zI (bz (0 ≤ k ∧ k < co 0 0))), .ref b]
  refine v_bif_eq X dX10_hasTestified_6 9 21 rfl (by decide) (fun c_1 => ?_) (fun c_1 => ?_)
  · skip
    exfalso; first | omega | contradiction
  · skip
    refine v_aload_n X dX10_hasTestified_9 10 rfl 0 rfl ?_
    refine v_iload_n X dX10_hasTestified_10 11 rfl 2 rfl ?_
    refine v_rdV X hM.C h_mo.1 (c_X10_isWitness l E b mo co w hO hR gw) kvX10_isWitness kiX10_isWitness kl_X10_95 rfl rfl (As := [.int (zI w)]) rfl rfl rfl dX10_hasTestified_11 14 rfl ?_
    show V p l e (rmL 2 0 0) s m args below meth cd Q 3 s.heap [] 0 0 14 [(0, .ref b), (1, .int (zI k)), (2, .int (zI w))] [.int (zI (bz (0 ≤ w ∧ w < co 0 1))), .ref b]
    refine v_bif_eq X dX10_hasTestified_14 17 21 rfl (by decide) (fun c_2 => ?_) (fun c_2 => ?_)
    · skip
      refine v_iconst X dX10_hasTestified_21 22 rfl ?_
      refine v_muV X hM (h_mo.1) (c_X10_isFine_0 l E b mo) kvX10_isFine kiX10_isFine kl_X10_124 (q0 := 0) rfl rfl (As := [.int (zI 0)]) rfl rfl rfl dX10_hasTestified_22 25 rfl (k' := 0) (n' := 0) rfl rfl (fsI (fun q q1 q2 => (Or.inl (fsH (by omega) (by omega))))) h_mo (fun rv H3 lo3 hM hF hpo => ?_)
      obtain ⟨rfl, hw_0⟩ := hpo
      have h_mo : PR E b (modelW E b (updC mo 0 (updZ (mo 0) 0 1))) H3 := hw_0
      show V p l e (rmL 2 0 0) s m args below meth cd Q 3 H3 lo3 0 0 25 [(0, .ref b), (1, .int (zI k)), (2, .int (zI w))] [.int (zI 0)]
      refine v_if_eq X (by omega) dX10_hasTestified_25 28 41 rfl (by decide) (fun c_4 => ?_) (fun c_4 => ?_)
      · skip
        refine v_iconst X dX10_hasTestified_41 42 rfl ?_
        subst hQ; exact m_zret X hr hlk hM dX10_hasTestified_42 rfl (by omega) ⟨rfl, h_mo⟩
      · skip
        exfalso; omega
    · skip
      exfalso; first | omega | contradiction
set_option maxHeartbeats 4000000 in
set_option maxRecDepth 20000 in
theorem c_X10_ofTestimony_t1 (l : Launch) (E : Nat → Nat → Nat) (b : Nat) (mo : Nat → Int → Int) (co : Nat → Int → Int) (k : Int) (w : Int) (hO : OkC co) (hR : RelC co (mo 1)) (hI : TsI co) (gk : Rg k) (gw : Rg w) (p0 : 0 ≤ k ∧ k < co 0 0) (p1 : 0 ≤ w ∧ w < co 0 1) (p2 : 0 < co 9 (k * 8 + w)) : Mu l yX10_ofTestimony cX10_ofTestimony 4 (some .int) 2 0 0 E [(b, 5)] [.ref b, .int (zI k), .int (zI w), .int (zI 1)] (fun H => PR E b (modelW E b mo) H) (fun rv H => rv = some (.int (zI ((co 8 (k * 8 + w) + 1) / 2))) ∧ PR E b (modelW E b (updC mo 0 (updZ (mo 0) 0 0))) H) := by
  refine Mu.start (own := RX10) rfl (by decide +kernel) (Nat.le_of_ble_eq_true rfl) ?_
  intro p e s m below meth cd args Q hQ X hr hlk hnm hM hPr
  have h_mo := hPr
  have hb0 := hO.b0
  have hbw := hO.bw
  have hr0 := hR.s0
  have hr1 := hR.s1
  have hsp := swC_iff (co := co) (k := k) (w := w) hO hI (by omega) (by omega) (by omega) (by omega)
  refine v_aload_n X dX10_ofTestimony_0 1 rfl 0 rfl ?_
  refine v_aload_n X dX10_ofTestimony_1 2 rfl 0 rfl ?_
  refine v_iload_n X dX10_ofTestimony_2 3 rfl 1 rfl ?_
  refine v_rdV X hM.C h_mo.1 (c_X10_isCase l E b mo co k hO hR gk) kvX10_isCase kiX10_isCase kl_X10_92 rfl rfl (As := [.int (zI k)]) rfl rfl rfl dX10_ofTestimony_3 6 rfl ?_
  show V p l e (rmL 2 0 0) s m args below meth cd Q 4 s.heap [] 0 0 6 [(0, .ref b), (1, .int (zI k)), (2, .int (zI w)), (3, .int (zI 1))] [.int (zI (bz (0 ≤ k ∧ k < co 0 0))), .ref b]
  refine v_bif_eq X dX10_ofTestimony_6 9 17 rfl (by decide) (fun c_1 => ?_) (fun c_1 => ?_)
  · skip
    exfalso; first | omega | contradiction
  · skip
    refine v_aload_n X dX10_ofTestimony_9 10 rfl 0 rfl ?_
    refine v_iload_n X dX10_ofTestimony_10 11 rfl 2 rfl ?_
    refine v_rdV X hM.C h_mo.1 (c_X10_isWitness l E b mo co w hO hR gw) kvX10_isWitness kiX10_isWitness kl_X10_95 rfl rfl (As := [.int (zI w)]) rfl rfl rfl dX10_ofTestimony_11 14 rfl ?_
    show V p l e (rmL 2 0 0) s m args below meth cd Q 4 s.heap [] 0 0 14 [(0, .ref b), (1, .int (zI k)), (2, .int (zI w)), (3, .int (zI 1))] [.int (zI (bz (0 ≤ w ∧ w < co 0 1))), .ref b]
    refine v_bif_ne X dX10_ofTestimony_14 17 21 rfl (by decide) (fun c_2 => ?_) (fun c_2 => ?_)
    · skip
      refine v_aload_n X dX10_ofTestimony_21 22 rfl 0 rfl ?_
      refine v_iload_n X dX10_ofTestimony_22 23 rfl 1 rfl ?_
      refine v_iload_n X dX10_ofTestimony_23 24 rfl 2 rfl ?_
      have hb_3 := hO.b0
      refine v_rdV X hM.C h_mo.1 (c_X10_spokenBy l E b mo co k w hO hR (by omega) (by omega) gw) kvX10_spokenBy kiX10_spokenBy kl_X10_98 rfl rfl (As := [.int (zI k), .int (zI w)]) rfl rfl rfl dX10_ofTestimony_24 27 rfl ?_
      show V p l e (rmL 2 0 0) s m args below meth cd Q 4 s.heap [] 0 0 27 [(0, .ref b), (1, .int (zI k)), (2, .int (zI w)), (3, .int (zI 1))] [.int (zI (swC co k w)), .ref b]
      have hf_4 := swC_b hO k w
      refine v_if_ge X (by omega) dX10_ofTestimony_27 30 34 rfl (by decide) (fun c_5 => ?_) (fun c_5 => ?_)
      · skip
        refine v_iconst X dX10_ofTestimony_34 35 rfl ?_
        refine v_putf X hM h_mo ftX10 0 rfl rfl 0 (by decide) kf_X10_30 (fun _ h => h) rfl rfl rfl (Nat.le_of_ble_eq_true rfl) (Or.inl (fsH (by omega) (by omega))) dX10_ofTestimony_35 38 rfl (ws' := modelW E b (updC mo 0 (updZ (mo 0) 0 0))) rfl (fun H6 lo6 hzz hM hF h_mo => ?_)
        clear hzz
        refine v_aload_n X dX10_ofTestimony_38 39 rfl 0 rfl ?_
        refine v_getf X hM.C h_mo.1 inX10 0 rfl rfl 0 (by decide) kf_X10_30 (fun _ h => h) rfl dX10_ofTestimony_39 42 rfl ?_
        show V p l e (rmL 2 0 0) s m args below meth cd Q 4 H6 lo6 0 0 42 [(0, .ref b), (1, .int (zI k)), (2, .int (zI w)), (3, .int (zI 1))] [.int (zI 0)]
        refine v_if_ne X (by omega) dX10_ofTestimony_42 45 60 rfl (by decide) (fun c_7 => ?_) (fun c_7 => ?_)
        · skip
          exfalso; omega
        · skip
          refine v_aload_n X dX10_ofTestimony_45 46 rfl 0 rfl ?_
          refine v_iload_n X dX10_ofTestimony_46 47 rfl 1 rfl ?_
          refine v_aload_n X dX10_ofTestimony_47 48 rfl 0 rfl ?_
          refine v_iload_n X dX10_ofTestimony_48 49 rfl 1 rfl ?_
          refine v_iload_n X dX10_ofTestimony_49 50 rfl 2 rfl ?_
          refine v_rdV X hM.C h_mo.1 (c_X10_spokenBy l E b (updC mo 0 (updZ (mo 0) 0 0)) co k w hO hR (by omega) (by omega) gw) kvX10_spokenBy kiX10_spokenBy kl_X10_98 rfl rfl (As := [.int (zI k), .int (zI w)]) rfl rfl rfl dX10_ofTestimony_50 53 rfl ?_
          show V p l e (rmL 2 0 0) s m args below meth cd Q 4 H6 lo6 0 0 53 [(0, .ref b), (1, .int (zI k)), (2, .int (zI w)), (3, .int (zI 1))] [.int (zI (swC co k w)), .int (zI k), .ref b]
          have hf_8 := swC_b hO k w
          refine v_iload_n X dX10_ofTestimony_53 54 rfl 3 rfl ?_
          have hb_9 := hO.b6 k
          refine v_rdV X hM.C h_mo.1 (c_X10_t_1 l E b (updC mo 0 (updZ (mo 0) 0 0)) co k (swC co k w) hO hR (by omega) (by omega) (by omega) (by omega)) kvX10_t kiX10_t kl_X10_51 rfl rfl (As := [.int (zI k), .int (zI (swC co k w)), .int (zI 1)]) rfl rfl rfl dX10_ofTestimony_54 57 rfl ?_
          show V p l e (rmL 2 0 0) s m args below meth cd Q 4 H6 lo6 0 0 57 [(0, .ref b), (1, .int (zI k)), (2, .int (zI w)), (3, .int (zI 1))] [.int (zI ((sdC co k (swC co k w) + 1) / 2))]
          refine v_goto X dX10_ofTestimony_57 61 (by decide) ?_
          subst hQ; exact m_iret X hr hlk hM dX10_ofTestimony_61 rfl ⟨(sv (by unfold sdC; rw [swC_at (co := co) (k := k) (w := w) (by omega)])), h_mo⟩
      · skip
        refine v_iconst X dX10_ofTestimony_30 31 rfl ?_
        refine v_goto X dX10_ofTestimony_31 35 (by decide) ?_
        refine v_putf X hM h_mo ftX10 0 rfl rfl 0 (by decide) kf_X10_30 (fun _ h => h) rfl rfl rfl (Nat.le_of_ble_eq_true rfl) (Or.inl (fsH (by omega) (by omega))) dX10_ofTestimony_35 38 rfl (ws' := modelW E b (updC mo 0 (updZ (mo 0) 0 2))) rfl (fun H10 lo10 hzz hM hF h_mo => ?_)
        clear hzz
        refine v_aload_n X dX10_ofTestimony_38 39 rfl 0 rfl ?_
        refine v_getf X hM.C h_mo.1 inX10 0 rfl rfl 0 (by decide) kf_X10_30 (fun _ h => h) rfl dX10_ofTestimony_39 42 rfl ?_
        show V p l e (rmL 2 0 0) s m args below meth cd Q 4 H10 lo10 0 0 42 [(0, .ref b), (1, .int (zI k)), (2, .int (zI w)), (3, .int (zI 1))] [.int (zI 2)]
        refine v_if_ne X (by omega) dX10_ofTestimony_42 45 60 rfl (by decide) (fun c_11 => ?_) (fun c_11 => ?_)
        · skip
          refine v_iconst X dX10_ofTestimony_60 61 rfl ?_
          exfalso; omega
        · skip
          exfalso; omega
    · skip
      exfalso; first | omega | contradiction
set_option maxHeartbeats 4000000 in
set_option maxRecDepth 20000 in
theorem c_X10_ofTestimony_t1_0 (l : Launch) (E : Nat → Nat → Nat) (b : Nat) (mo : Nat → Int → Int) (co : Nat → Int → Int) (k : Int) (w : Int) (hO : OkC co) (hR : RelC co (mo 1)) (hI : TsI co) (gk : Rg k) (gw : Rg w) (nk : ¬ (0 ≤ k ∧ k < co 0 0)) : Mu l yX10_ofTestimony cX10_ofTestimony 4 (some .int) 2 0 0 E [(b, 5)] [.ref b, .int (zI k), .int (zI w), .int (zI 1)] (fun H => PR E b (modelW E b mo) H) (fun rv H => rv = some (.int (zI 0)) ∧ PR E b (modelW E b (updC mo 0 (updZ (mo 0) 0 1))) H) := by
  refine Mu.start (own := RX10) rfl (by decide +kernel) (Nat.le_of_ble_eq_true rfl) ?_
  intro p e s m below meth cd args Q hQ X hr hlk hnm hM hPr
  have h_mo := hPr
  have hb0 := hO.b0
  have hbw := hO.bw
  have hr0 := hR.s0
  have hr1 := hR.s1
  refine v_aload_n X dX10_ofTestimony_0 1 rfl 0 rfl ?_
  refine v_aload_n X dX10_ofTestimony_1 2 rfl 0 rfl ?_
  refine v_iload_n X dX10_ofTestimony_2 3 rfl 1 rfl ?_
  refine v_rdV X hM.C h_mo.1 (c_X10_isCase l E b mo co k hO hR gk) kvX10_isCase kiX10_isCase kl_X10_92 rfl rfl (As := [.int (zI k)]) rfl rfl rfl dX10_ofTestimony_3 6 rfl ?_
  show V p l e (rmL 2 0 0) s m args below meth cd Q 4 s.heap [] 0 0 6 [(0, .ref b), (1, .int (zI k)), (2, .int (zI w)), (3, .int (zI 1))] [.int (zI (bz (0 ≤ k ∧ k < co 0 0))), .ref b]
  refine v_bif_eq X dX10_ofTestimony_6 9 17 rfl (by decide) (fun c_1 => ?_) (fun c_1 => ?_)
  · skip
    refine v_iconst X dX10_ofTestimony_17 18 rfl ?_
    refine v_goto X dX10_ofTestimony_18 35 (by decide) ?_
    refine v_putf X hM h_mo ftX10 0 rfl rfl 0 (by decide) kf_X10_30 (fun _ h => h) rfl rfl rfl (Nat.le_of_ble_eq_true rfl) (Or.inl (fsH (by omega) (by omega))) dX10_ofTestimony_35 38 rfl (ws' := modelW E b (updC mo 0 (updZ (mo 0) 0 1))) rfl (fun H2 lo2 hzz hM hF h_mo => ?_)
    clear hzz
    refine v_aload_n X dX10_ofTestimony_38 39 rfl 0 rfl ?_
    refine v_getf X hM.C h_mo.1 inX10 0 rfl rfl 0 (by decide) kf_X10_30 (fun _ h => h) rfl dX10_ofTestimony_39 42 rfl ?_
    show V p l e (rmL 2 0 0) s m args below meth cd Q 4 H2 lo2 0 0 42 [(0, .ref b), (1, .int (zI k)), (2, .int (zI w)), (3, .int (zI 1))] [.int (zI 1)]
    refine v_if_ne X (by omega) dX10_ofTestimony_42 45 60 rfl (by decide) (fun c_3 => ?_) (fun c_3 => ?_)
    · skip
      refine v_iconst X dX10_ofTestimony_60 61 rfl ?_
      subst hQ; exact m_iret X hr hlk hM dX10_ofTestimony_61 rfl ⟨rfl, h_mo⟩
    · skip
      exfalso; omega
  · skip
    exfalso; first | omega | contradiction
set_option maxHeartbeats 4000000 in
set_option maxRecDepth 20000 in
theorem c_X10_ofTestimony_t1_1 (l : Launch) (E : Nat → Nat → Nat) (b : Nat) (mo : Nat → Int → Int) (co : Nat → Int → Int) (k : Int) (w : Int) (hO : OkC co) (hR : RelC co (mo 1)) (hI : TsI co) (gk : Rg k) (gw : Rg w) (p0 : 0 ≤ k ∧ k < co 0 0) (nk : ¬ (0 ≤ w ∧ w < co 0 1)) : Mu l yX10_ofTestimony cX10_ofTestimony 4 (some .int) 2 0 0 E [(b, 5)] [.ref b, .int (zI k), .int (zI w), .int (zI 1)] (fun H => PR E b (modelW E b mo) H) (fun rv H => rv = some (.int (zI 0)) ∧ PR E b (modelW E b (updC mo 0 (updZ (mo 0) 0 1))) H) := by
  refine Mu.start (own := RX10) rfl (by decide +kernel) (Nat.le_of_ble_eq_true rfl) ?_
  intro p e s m below meth cd args Q hQ X hr hlk hnm hM hPr
  have h_mo := hPr
  have hb0 := hO.b0
  have hbw := hO.bw
  have hr0 := hR.s0
  have hr1 := hR.s1
  refine v_aload_n X dX10_ofTestimony_0 1 rfl 0 rfl ?_
  refine v_aload_n X dX10_ofTestimony_1 2 rfl 0 rfl ?_
  refine v_iload_n X dX10_ofTestimony_2 3 rfl 1 rfl ?_
  refine v_rdV X hM.C h_mo.1 (c_X10_isCase l E b mo co k hO hR gk) kvX10_isCase kiX10_isCase kl_X10_92 rfl rfl (As := [.int (zI k)]) rfl rfl rfl dX10_ofTestimony_3 6 rfl ?_
  show V p l e (rmL 2 0 0) s m args below meth cd Q 4 s.heap [] 0 0 6 [(0, .ref b), (1, .int (zI k)), (2, .int (zI w)), (3, .int (zI 1))] [.int (zI (bz (0 ≤ k ∧ k < co 0 0))), .ref b]
  refine v_bif_eq X dX10_ofTestimony_6 9 17 rfl (by decide) (fun c_1 => ?_) (fun c_1 => ?_)
  · skip
    exfalso; first | omega | contradiction
  · skip
    refine v_aload_n X dX10_ofTestimony_9 10 rfl 0 rfl ?_
    refine v_iload_n X dX10_ofTestimony_10 11 rfl 2 rfl ?_
    refine v_rdV X hM.C h_mo.1 (c_X10_isWitness l E b mo co w hO hR gw) kvX10_isWitness kiX10_isWitness kl_X10_95 rfl rfl (As := [.int (zI w)]) rfl rfl rfl dX10_ofTestimony_11 14 rfl ?_
    show V p l e (rmL 2 0 0) s m args below meth cd Q 4 s.heap [] 0 0 14 [(0, .ref b), (1, .int (zI k)), (2, .int (zI w)), (3, .int (zI 1))] [.int (zI (bz (0 ≤ w ∧ w < co 0 1))), .ref b]
    refine v_bif_ne X dX10_ofTestimony_14 17 21 rfl (by decide) (fun c_2 => ?_) (fun c_2 => ?_)
    · skip
      exfalso; first | omega | contradiction
    · skip
      refine v_iconst X dX10_ofTestimony_17 18 rfl ?_
      refine v_goto X dX10_ofTestimony_18 35 (by decide) ?_
      refine v_putf X hM h_mo ftX10 0 rfl rfl 0 (by decide) kf_X10_30 (fun _ h => h) rfl rfl rfl (Nat.le_of_ble_eq_true rfl) (Or.inl (fsH (by omega) (by omega))) dX10_ofTestimony_35 38 rfl (ws' := modelW E b (updC mo 0 (updZ (mo 0) 0 1))) rfl (fun H3 lo3 hzz hM hF h_mo => ?_)
      clear hzz
      refine v_aload_n X dX10_ofTestimony_38 39 rfl 0 rfl ?_
      refine v_getf X hM.C h_mo.1 inX10 0 rfl rfl 0 (by decide) kf_X10_30 (fun _ h => h) rfl dX10_ofTestimony_39 42 rfl ?_
      show V p l e (rmL 2 0 0) s m args below meth cd Q 4 H3 lo3 0 0 42 [(0, .ref b), (1, .int (zI k)), (2, .int (zI w)), (3, .int (zI 1))] [.int (zI 1)]
      refine v_if_ne X (by omega) dX10_ofTestimony_42 45 60 rfl (by decide) (fun c_4 => ?_) (fun c_4 => ?_)
      · skip
        refine v_iconst X dX10_ofTestimony_60 61 rfl ?_
        subst hQ; exact m_iret X hr hlk hM dX10_ofTestimony_61 rfl ⟨rfl, h_mo⟩
      · skip
        exfalso; omega
set_option maxHeartbeats 4000000 in
set_option maxRecDepth 20000 in
theorem c_X10_ofTestimony_t1_2 (l : Launch) (E : Nat → Nat → Nat) (b : Nat) (mo : Nat → Int → Int) (co : Nat → Int → Int) (k : Int) (w : Int) (hO : OkC co) (hR : RelC co (mo 1)) (hI : TsI co) (gk : Rg k) (gw : Rg w) (p0 : 0 ≤ k ∧ k < co 0 0) (p1 : 0 ≤ w ∧ w < co 0 1) (nk : ¬ (0 < co 9 (k * 8 + w))) : Mu l yX10_ofTestimony cX10_ofTestimony 4 (some .int) 2 0 0 E [(b, 5)] [.ref b, .int (zI k), .int (zI w), .int (zI 1)] (fun H => PR E b (modelW E b mo) H) (fun rv H => rv = some (.int (zI 0)) ∧ PR E b (modelW E b (updC mo 0 (updZ (mo 0) 0 2))) H) := by
  refine Mu.start (own := RX10) rfl (by decide +kernel) (Nat.le_of_ble_eq_true rfl) ?_
  intro p e s m below meth cd args Q hQ X hr hlk hnm hM hPr
  have h_mo := hPr
  have hb0 := hO.b0
  have hbw := hO.bw
  have hr0 := hR.s0
  have hr1 := hR.s1
  have hsp := swC_iff (co := co) (k := k) (w := w) hO hI (by omega) (by omega) (by omega) (by omega)
  refine v_aload_n X dX10_ofTestimony_0 1 rfl 0 rfl ?_
  refine v_aload_n X dX10_ofTestimony_1 2 rfl 0 rfl ?_
  refine v_iload_n X dX10_ofTestimony_2 3 rfl 1 rfl ?_
  refine v_rdV X hM.C h_mo.1 (c_X10_isCase l E b mo co k hO hR gk) kvX10_isCase kiX10_isCase kl_X10_92 rfl rfl (As := [.int (zI k)]) rfl rfl rfl dX10_ofTestimony_3 6 rfl ?_
  show V p l e (rmL 2 0 0) s m args below meth cd Q 4 s.heap [] 0 0 6 [(0, .ref b), (1, .int (zI k)), (2, .int (zI w)), (3, .int (zI 1))] [.int (zI (bz (0 ≤ k ∧ k < co 0 0))), .ref b]
  refine v_bif_eq X dX10_ofTestimony_6 9 17 rfl (by decide) (fun c_1 => ?_) (fun c_1 => ?_)
  · skip
    exfalso; first | omega | contradiction
  · skip
    refine v_aload_n X dX10_ofTestimony_9 10 rfl 0 rfl ?_
    refine v_iload_n X dX10_ofTestimony_10 11 rfl 2 rfl ?_
    refine v_rdV X hM.C h_mo.1 (c_X10_isWitness l E b mo co w hO hR gw) kvX10_isWitness kiX10_isWitness kl_X10_95 rfl rfl (As := [.int (zI w)]) rfl rfl rfl dX10_ofTestimony_11 14 rfl ?_
    show V p l e (rmL 2 0 0) s m args below meth cd Q 4 s.heap [] 0 0 14 [(0, .ref b), (1, .int (zI k)), (2, .int (zI w)), (3, .int (zI 1))] [.int (zI (bz (0 ≤ w ∧ w < co 0 1))), .ref b]
    refine v_bif_ne X dX10_ofTestimony_14 17 21 rfl (by decide) (fun c_2 => ?_) (fun c_2 => ?_)
    · skip
      refine v_aload_n X dX10_ofTestimony_21 22 rfl 0 rfl ?_
      refine v_iload_n X dX10_ofTestimony_22 23 rfl 1 rfl ?_
      refine v_iload_n X dX10_ofTestimony_23 24 rfl 2 rfl ?_
      have hb_3 := hO.b0
      refine v_rdV X hM.C h_mo.1 (c_X10_spokenBy l E b mo co k w hO hR (by omega) (by omega) gw) kvX10_spokenBy kiX10_spokenBy kl_X10_98 rfl rfl (As := [.int (zI k), .int (zI w)]) rfl rfl rfl dX10_ofTestimony_24 27 rfl ?_
      show V p l e (rmL 2 0 0) s m args below meth cd Q 4 s.heap [] 0 0 27 [(0, .ref b), (1, .int (zI k)), (2, .int (zI w)), (3, .int (zI 1))] [.int (zI (swC co k w)), .ref b]
      have hf_4 := swC_b hO k w
      refine v_if_ge X (by omega) dX10_ofTestimony_27 30 34 rfl (by decide) (fun c_5 => ?_) (fun c_5 => ?_)
      · skip
        refine v_iconst X dX10_ofTestimony_34 35 rfl ?_
        refine v_putf X hM h_mo ftX10 0 rfl rfl 0 (by decide) kf_X10_30 (fun _ h => h) rfl rfl rfl (Nat.le_of_ble_eq_true rfl) (Or.inl (fsH (by omega) (by omega))) dX10_ofTestimony_35 38 rfl (ws' := modelW E b (updC mo 0 (updZ (mo 0) 0 0))) rfl (fun H6 lo6 hzz hM hF h_mo => ?_)
        clear hzz
        refine v_aload_n X dX10_ofTestimony_38 39 rfl 0 rfl ?_
        refine v_getf X hM.C h_mo.1 inX10 0 rfl rfl 0 (by decide) kf_X10_30 (fun _ h => h) rfl dX10_ofTestimony_39 42 rfl ?_
        show V p l e (rmL 2 0 0) s m args below meth cd Q 4 H6 lo6 0 0 42 [(0, .ref b), (1, .int (zI k)), (2, .int (zI w)), (3, .int (zI 1))] [.int (zI 0)]
        refine v_if_ne X (by omega) dX10_ofTestimony_42 45 60 rfl (by decide) (fun c_7 => ?_) (fun c_7 => ?_)
        · skip
          exfalso; omega
        · skip
          refine v_aload_n X dX10_ofTestimony_45 46 rfl 0 rfl ?_
          refine v_iload_n X dX10_ofTestimony_46 47 rfl 1 rfl ?_
          refine v_aload_n X dX10_ofTestimony_47 48 rfl 0 rfl ?_
          refine v_iload_n X dX10_ofTestimony_48 49 rfl 1 rfl ?_
          refine v_iload_n X dX10_ofTestimony_49 50 rfl 2 rfl ?_
          refine v_rdV X hM.C h_mo.1 (c_X10_spokenBy l E b (updC mo 0 (updZ (mo 0) 0 0)) co k w hO hR (by omega) (by omega) gw) kvX10_spokenBy kiX10_spokenBy kl_X10_98 rfl rfl (As := [.int (zI k), .int (zI w)]) rfl rfl rfl dX10_ofTestimony_50 53 rfl ?_
          show V p l e (rmL 2 0 0) s m args below meth cd Q 4 H6 lo6 0 0 53 [(0, .ref b), (1, .int (zI k)), (2, .int (zI w)), (3, .int (zI 1))] [.int (zI (swC co k w)), .int (zI k), .ref b]
          have hf_8 := swC_b hO k w
          refine v_iload_n X dX10_ofTestimony_53 54 rfl 3 rfl ?_
          have hb_9 := hO.b6 k
          refine v_rdV X hM.C h_mo.1 (c_X10_t_1 l E b (updC mo 0 (updZ (mo 0) 0 0)) co k (swC co k w) hO hR (by omega) (by omega) (by omega) (by omega)) kvX10_t kiX10_t kl_X10_51 rfl rfl (As := [.int (zI k), .int (zI (swC co k w)), .int (zI 1)]) rfl rfl rfl dX10_ofTestimony_54 57 rfl ?_
          show V p l e (rmL 2 0 0) s m args below meth cd Q 4 H6 lo6 0 0 57 [(0, .ref b), (1, .int (zI k)), (2, .int (zI w)), (3, .int (zI 1))] [.int (zI ((sdC co k (swC co k w) + 1) / 2))]
          refine v_goto X dX10_ofTestimony_57 61 (by decide) ?_
          exfalso; omega
      · skip
        refine v_iconst X dX10_ofTestimony_30 31 rfl ?_
        refine v_goto X dX10_ofTestimony_31 35 (by decide) ?_
        refine v_putf X hM h_mo ftX10 0 rfl rfl 0 (by decide) kf_X10_30 (fun _ h => h) rfl rfl rfl (Nat.le_of_ble_eq_true rfl) (Or.inl (fsH (by omega) (by omega))) dX10_ofTestimony_35 38 rfl (ws' := modelW E b (updC mo 0 (updZ (mo 0) 0 2))) rfl (fun H10 lo10 hzz hM hF h_mo => ?_)
        clear hzz
        refine v_aload_n X dX10_ofTestimony_38 39 rfl 0 rfl ?_
        refine v_getf X hM.C h_mo.1 inX10 0 rfl rfl 0 (by decide) kf_X10_30 (fun _ h => h) rfl dX10_ofTestimony_39 42 rfl ?_
        show V p l e (rmL 2 0 0) s m args below meth cd Q 4 H10 lo10 0 0 42 [(0, .ref b), (1, .int (zI k)), (2, .int (zI w)), (3, .int (zI 1))] [.int (zI 2)]
        refine v_if_ne X (by omega) dX10_ofTestimony_42 45 60 rfl (by decide) (fun c_11 => ?_) (fun c_11 => ?_)
        · skip
          refine v_iconst X dX10_ofTestimony_60 61 rfl ?_
          subst hQ; exact m_iret X hr hlk hM dX10_ofTestimony_61 rfl ⟨rfl, h_mo⟩
        · skip
          exfalso; omega
    · skip
      exfalso; first | omega | contradiction
set_option maxHeartbeats 4000000 in
set_option maxRecDepth 20000 in
theorem c_X10_ofTestimony_t2 (l : Launch) (E : Nat → Nat → Nat) (b : Nat) (mo : Nat → Int → Int) (co : Nat → Int → Int) (k : Int) (w : Int) (hO : OkC co) (hR : RelC co (mo 1)) (hI : TsI co) (gk : Rg k) (gw : Rg w) (p0 : 0 ≤ k ∧ k < co 0 0) (p1 : 0 ≤ w ∧ w < co 0 1) (p2 : 0 < co 9 (k * 8 + w)) : Mu l yX10_ofTestimony cX10_ofTestimony 4 (some .int) 2 0 0 E [(b, 5)] [.ref b, .int (zI k), .int (zI w), .int (zI 2)] (fun H => PR E b (modelW E b mo) H) (fun rv H => rv = some (.int (zI (co 9 (k * 8 + w)))) ∧ PR E b (modelW E b (updC mo 0 (updZ (mo 0) 0 0))) H) := by
  refine Mu.start (own := RX10) rfl (by decide +kernel) (Nat.le_of_ble_eq_true rfl) ?_
  intro p e s m below meth cd args Q hQ X hr hlk hnm hM hPr
  have h_mo := hPr
  have hb0 := hO.b0
  have hbw := hO.bw
  have hr0 := hR.s0
  have hr1 := hR.s1
  have hsp := swC_iff (co := co) (k := k) (w := w) hO hI (by omega) (by omega) (by omega) (by omega)
  refine v_aload_n X dX10_ofTestimony_0 1 rfl 0 rfl ?_
  refine v_aload_n X dX10_ofTestimony_1 2 rfl 0 rfl ?_
  refine v_iload_n X dX10_ofTestimony_2 3 rfl 1 rfl ?_
  refine v_rdV X hM.C h_mo.1 (c_X10_isCase l E b mo co k hO hR gk) kvX10_isCase kiX10_isCase kl_X10_92 rfl rfl (As := [.int (zI k)]) rfl rfl rfl dX10_ofTestimony_3 6 rfl ?_
  show V p l e (rmL 2 0 0) s m args below meth cd Q 4 s.heap [] 0 0 6 [(0, .ref b), (1, .int (zI k)), (2, .int (zI w)), (3, .int (zI 2))] [.int (zI (bz (0 ≤ k ∧ k < co 0 0))), .ref b]
  refine v_bif_eq X dX10_ofTestimony_6 9 17 rfl (by decide) (fun c_1 => ?_) (fun c_1 => ?_)
  · skip
    exfalso; first | omega | contradiction
  · skip
    refine v_aload_n X dX10_ofTestimony_9 10 rfl 0 rfl ?_
    refine v_iload_n X dX10_ofTestimony_10 11 rfl 2 rfl ?_
    refine v_rdV X hM.C h_mo.1 (c_X10_isWitness l E b mo co w hO hR gw) kvX10_isWitness kiX10_isWitness kl_X10_95 rfl rfl (As := [.int (zI w)]) rfl rfl rfl dX10_ofTestimony_11 14 rfl ?_
    show V p l e (rmL 2 0 0) s m args below meth cd Q 4 s.heap [] 0 0 14 [(0, .ref b), (1, .int (zI k)), (2, .int (zI w)), (3, .int (zI 2))] [.int (zI (bz (0 ≤ w ∧ w < co 0 1))), .ref b]
    refine v_bif_ne X dX10_ofTestimony_14 17 21 rfl (by decide) (fun c_2 => ?_) (fun c_2 => ?_)
    · skip
      refine v_aload_n X dX10_ofTestimony_21 22 rfl 0 rfl ?_
      refine v_iload_n X dX10_ofTestimony_22 23 rfl 1 rfl ?_
      refine v_iload_n X dX10_ofTestimony_23 24 rfl 2 rfl ?_
      have hb_3 := hO.b0
      refine v_rdV X hM.C h_mo.1 (c_X10_spokenBy l E b mo co k w hO hR (by omega) (by omega) gw) kvX10_spokenBy kiX10_spokenBy kl_X10_98 rfl rfl (As := [.int (zI k), .int (zI w)]) rfl rfl rfl dX10_ofTestimony_24 27 rfl ?_
      show V p l e (rmL 2 0 0) s m args below meth cd Q 4 s.heap [] 0 0 27 [(0, .ref b), (1, .int (zI k)), (2, .int (zI w)), (3, .int (zI 2))] [.int (zI (swC co k w)), .ref b]
      have hf_4 := swC_b hO k w
      refine v_if_ge X (by omega) dX10_ofTestimony_27 30 34 rfl (by decide) (fun c_5 => ?_) (fun c_5 => ?_)
      · skip
        refine v_iconst X dX10_ofTestimony_34 35 rfl ?_
        refine v_putf X hM h_mo ftX10 0 rfl rfl 0 (by decide) kf_X10_30 (fun _ h => h) rfl rfl rfl (Nat.le_of_ble_eq_true rfl) (Or.inl (fsH (by omega) (by omega))) dX10_ofTestimony_35 38 rfl (ws' := modelW E b (updC mo 0 (updZ (mo 0) 0 0))) rfl (fun H6 lo6 hzz hM hF h_mo => ?_)
        clear hzz
        refine v_aload_n X dX10_ofTestimony_38 39 rfl 0 rfl ?_
        refine v_getf X hM.C h_mo.1 inX10 0 rfl rfl 0 (by decide) kf_X10_30 (fun _ h => h) rfl dX10_ofTestimony_39 42 rfl ?_
        show V p l e (rmL 2 0 0) s m args below meth cd Q 4 H6 lo6 0 0 42 [(0, .ref b), (1, .int (zI k)), (2, .int (zI w)), (3, .int (zI 2))] [.int (zI 0)]
        refine v_if_ne X (by omega) dX10_ofTestimony_42 45 60 rfl (by decide) (fun c_7 => ?_) (fun c_7 => ?_)
        · skip
          exfalso; omega
        · skip
          refine v_aload_n X dX10_ofTestimony_45 46 rfl 0 rfl ?_
          refine v_iload_n X dX10_ofTestimony_46 47 rfl 1 rfl ?_
          refine v_aload_n X dX10_ofTestimony_47 48 rfl 0 rfl ?_
          refine v_iload_n X dX10_ofTestimony_48 49 rfl 1 rfl ?_
          refine v_iload_n X dX10_ofTestimony_49 50 rfl 2 rfl ?_
          refine v_rdV X hM.C h_mo.1 (c_X10_spokenBy l E b (updC mo 0 (updZ (mo 0) 0 0)) co k w hO hR (by omega) (by omega) gw) kvX10_spokenBy kiX10_spokenBy kl_X10_98 rfl rfl (As := [.int (zI k), .int (zI w)]) rfl rfl rfl dX10_ofTestimony_50 53 rfl ?_
          show V p l e (rmL 2 0 0) s m args below meth cd Q 4 H6 lo6 0 0 53 [(0, .ref b), (1, .int (zI k)), (2, .int (zI w)), (3, .int (zI 2))] [.int (zI (swC co k w)), .int (zI k), .ref b]
          have hf_8 := swC_b hO k w
          refine v_iload_n X dX10_ofTestimony_53 54 rfl 3 rfl ?_
          have hb_9 := hO.b6 k
          refine v_rdV X hM.C h_mo.1 (c_X10_t_2 l E b (updC mo 0 (updZ (mo 0) 0 0)) co k (swC co k w) hO hR (by omega) (by omega) (by omega) (by omega)) kvX10_t kiX10_t kl_X10_51 rfl rfl (As := [.int (zI k), .int (zI (swC co k w)), .int (zI 2)]) rfl rfl rfl dX10_ofTestimony_54 57 rfl ?_
          show V p l e (rmL 2 0 0) s m args below meth cd Q 4 H6 lo6 0 0 57 [(0, .ref b), (1, .int (zI k)), (2, .int (zI w)), (3, .int (zI 2))] [.int (zI (co 9 (k * 8 + co 7 (k * 6 + (swC co k w)))))]
          have hb_10 := hO.b9 (k * 8 + co 7 (k * 6 + (swC co k w)))
          have hb_11 := hO.b7 (k * 6 + (swC co k w))
          refine v_goto X dX10_ofTestimony_57 61 (by decide) ?_
          subst hQ; exact m_iret X hr hlk hM dX10_ofTestimony_61 rfl ⟨(sv (by rw [swC_at (co := co) (k := k) (w := w) (by omega)])), h_mo⟩
      · skip
        refine v_iconst X dX10_ofTestimony_30 31 rfl ?_
        refine v_goto X dX10_ofTestimony_31 35 (by decide) ?_
        refine v_putf X hM h_mo ftX10 0 rfl rfl 0 (by decide) kf_X10_30 (fun _ h => h) rfl rfl rfl (Nat.le_of_ble_eq_true rfl) (Or.inl (fsH (by omega) (by omega))) dX10_ofTestimony_35 38 rfl (ws' := modelW E b (updC mo 0 (updZ (mo 0) 0 2))) rfl (fun H12 lo12 hzz hM hF h_mo => ?_)
        clear hzz
        refine v_aload_n X dX10_ofTestimony_38 39 rfl 0 rfl ?_
        refine v_getf X hM.C h_mo.1 inX10 0 rfl rfl 0 (by decide) kf_X10_30 (fun _ h => h) rfl dX10_ofTestimony_39 42 rfl ?_
        show V p l e (rmL 2 0 0) s m args below meth cd Q 4 H12 lo12 0 0 42 [(0, .ref b), (1, .int (zI k)), (2, .int (zI w)), (3, .int (zI 2))] [.int (zI 2)]
        refine v_if_ne X (by omega) dX10_ofTestimony_42 45 60 rfl (by decide) (fun c_13 => ?_) (fun c_13 => ?_)
        · skip
          refine v_iconst X dX10_ofTestimony_60 61 rfl ?_
          exfalso; omega
        · skip
          exfalso; omega
    · skip
      exfalso; first | omega | contradiction
set_option maxHeartbeats 4000000 in
set_option maxRecDepth 20000 in
theorem c_X10_ofTestimony_t2_0 (l : Launch) (E : Nat → Nat → Nat) (b : Nat) (mo : Nat → Int → Int) (co : Nat → Int → Int) (k : Int) (w : Int) (hO : OkC co) (hR : RelC co (mo 1)) (hI : TsI co) (gk : Rg k) (gw : Rg w) (nk : ¬ (0 ≤ k ∧ k < co 0 0)) : Mu l yX10_ofTestimony cX10_ofTestimony 4 (some .int) 2 0 0 E [(b, 5)] [.ref b, .int (zI k), .int (zI w), .int (zI 2)] (fun H => PR E b (modelW E b mo) H) (fun rv H => rv = some (.int (zI 0)) ∧ PR E b (modelW E b (updC mo 0 (updZ (mo 0) 0 1))) H) := by
  refine Mu.start (own := RX10) rfl (by decide +kernel) (Nat.le_of_ble_eq_true rfl) ?_
  intro p e s m below meth cd args Q hQ X hr hlk hnm hM hPr
  have h_mo := hPr
  have hb0 := hO.b0
  have hbw := hO.bw
  have hr0 := hR.s0
  have hr1 := hR.s1
  refine v_aload_n X dX10_ofTestimony_0 1 rfl 0 rfl ?_
  refine v_aload_n X dX10_ofTestimony_1 2 rfl 0 rfl ?_
  refine v_iload_n X dX10_ofTestimony_2 3 rfl 1 rfl ?_
  refine v_rdV X hM.C h_mo.1 (c_X10_isCase l E b mo co k hO hR gk) kvX10_isCase kiX10_isCase kl_X10_92 rfl rfl (As := [.int (zI k)]) rfl rfl rfl dX10_ofTestimony_3 6 rfl ?_
  show V p l e (rmL 2 0 0) s m args below meth cd Q 4 s.heap [] 0 0 6 [(0, .ref b), (1, .int (zI k)), (2, .int (zI w)), (3, .int (zI 2))] [.int (zI (bz (0 ≤ k ∧ k < co 0 0))), .ref b]
  refine v_bif_eq X dX10_ofTestimony_6 9 17 rfl (by decide) (fun c_1 => ?_) (fun c_1 => ?_)
  · skip
    refine v_iconst X dX10_ofTestimony_17 18 rfl ?_
    refine v_goto X dX10_ofTestimony_18 35 (by decide) ?_
    refine v_putf X hM h_mo ftX10 0 rfl rfl 0 (by decide) kf_X10_30 (fun _ h => h) rfl rfl rfl (Nat.le_of_ble_eq_true rfl) (Or.inl (fsH (by omega) (by omega))) dX10_ofTestimony_35 38 rfl (ws' := modelW E b (updC mo 0 (updZ (mo 0) 0 1))) rfl (fun H2 lo2 hzz hM hF h_mo => ?_)
    clear hzz
    refine v_aload_n X dX10_ofTestimony_38 39 rfl 0 rfl ?_
    refine v_getf X hM.C h_mo.1 inX10 0 rfl rfl 0 (by decide) kf_X10_30 (fun _ h => h) rfl dX10_ofTestimony_39 42 rfl ?_
    show V p l e (rmL 2 0 0) s m args below meth cd Q 4 H2 lo2 0 0 42 [(0, .ref b), (1, .int (zI k)), (2, .int (zI w)), (3, .int (zI 2))] [.int (zI 1)]
    refine v_if_ne X (by omega) dX10_ofTestimony_42 45 60 rfl (by decide) (fun c_3 => ?_) (fun c_3 => ?_)
    · skip
      refine v_iconst X dX10_ofTestimony_60 61 rfl ?_
      subst hQ; exact m_iret X hr hlk hM dX10_ofTestimony_61 rfl ⟨rfl, h_mo⟩
    · skip
      exfalso; omega
  · skip
    exfalso; first | omega | contradiction
set_option maxHeartbeats 4000000 in
set_option maxRecDepth 20000 in
theorem c_X10_ofTestimony_t2_1 (l : Launch) (E : Nat → Nat → Nat) (b : Nat) (mo : Nat → Int → Int) (co : Nat → Int → Int) (k : Int) (w : Int) (hO : OkC co) (hR : RelC co (mo 1)) (hI : TsI co) (gk : Rg k) (gw : Rg w) (p0 : 0 ≤ k ∧ k < co 0 0) (nk : ¬ (0 ≤ w ∧ w < co 0 1)) : Mu l yX10_ofTestimony cX10_ofTestimony 4 (some .int) 2 0 0 E [(b, 5)] [.ref b, .int (zI k), .int (zI w), .int (zI 2)] (fun H => PR E b (modelW E b mo) H) (fun rv H => rv = some (.int (zI 0)) ∧ PR E b (modelW E b (updC mo 0 (updZ (mo 0) 0 1))) H) := by
  refine Mu.start (own := RX10) rfl (by decide +kernel) (Nat.le_of_ble_eq_true rfl) ?_
  intro p e s m below meth cd args Q hQ X hr hlk hnm hM hPr
  have h_mo := hPr
  have hb0 := hO.b0
  have hbw := hO.bw
  have hr0 := hR.s0
  have hr1 := hR.s1
  refine v_aload_n X dX10_ofTestimony_0 1 rfl 0 rfl ?_
  refine v_aload_n X dX10_ofTestimony_1 2 rfl 0 rfl ?_
  refine v_iload_n X dX10_ofTestimony_2 3 rfl 1 rfl ?_
  refine v_rdV X hM.C h_mo.1 (c_X10_isCase l E b mo co k hO hR gk) kvX10_isCase kiX10_isCase kl_X10_92 rfl rfl (As := [.int (zI k)]) rfl rfl rfl dX10_ofTestimony_3 6 rfl ?_
  show V p l e (rmL 2 0 0) s m args below meth cd Q 4 s.heap [] 0 0 6 [(0, .ref b), (1, .int (zI k)), (2, .int (zI w)), (3, .int (zI 2))] [.int (zI (bz (0 ≤ k ∧ k < co 0 0))), .ref b]
  refine v_bif_eq X dX10_ofTestimony_6 9 17 rfl (by decide) (fun c_1 => ?_) (fun c_1 => ?_)
  · skip
    exfalso; first | omega | contradiction
  · skip
    refine v_aload_n X dX10_ofTestimony_9 10 rfl 0 rfl ?_
    refine v_iload_n X dX10_ofTestimony_10 11 rfl 2 rfl ?_
    refine v_rdV X hM.C h_mo.1 (c_X10_isWitness l E b mo co w hO hR gw) kvX10_isWitness kiX10_isWitness kl_X10_95 rfl rfl (As := [.int (zI w)]) rfl rfl rfl dX10_ofTestimony_11 14 rfl ?_
    show V p l e (rmL 2 0 0) s m args below meth cd Q 4 s.heap [] 0 0 14 [(0, .ref b), (1, .int (zI k)), (2, .int (zI w)), (3, .int (zI 2))] [.int (zI (bz (0 ≤ w ∧ w < co 0 1))), .ref b]
    refine v_bif_ne X dX10_ofTestimony_14 17 21 rfl (by decide) (fun c_2 => ?_) (fun c_2 => ?_)
    · skip
      exfalso; first | omega | contradiction
    · skip
      refine v_iconst X dX10_ofTestimony_17 18 rfl ?_
      refine v_goto X dX10_ofTestimony_18 35 (by decide) ?_
      refine v_putf X hM h_mo ftX10 0 rfl rfl 0 (by decide) kf_X10_30 (fun _ h => h) rfl rfl rfl (Nat.le_of_ble_eq_true rfl) (Or.inl (fsH (by omega) (by omega))) dX10_ofTestimony_35 38 rfl (ws' := modelW E b (updC mo 0 (updZ (mo 0) 0 1))) rfl (fun H3 lo3 hzz hM hF h_mo => ?_)
      clear hzz
      refine v_aload_n X dX10_ofTestimony_38 39 rfl 0 rfl ?_
      refine v_getf X hM.C h_mo.1 inX10 0 rfl rfl 0 (by decide) kf_X10_30 (fun _ h => h) rfl dX10_ofTestimony_39 42 rfl ?_
      show V p l e (rmL 2 0 0) s m args below meth cd Q 4 H3 lo3 0 0 42 [(0, .ref b), (1, .int (zI k)), (2, .int (zI w)), (3, .int (zI 2))] [.int (zI 1)]
      refine v_if_ne X (by omega) dX10_ofTestimony_42 45 60 rfl (by decide) (fun c_4 => ?_) (fun c_4 => ?_)
      · skip
        refine v_iconst X dX10_ofTestimony_60 61 rfl ?_
        subst hQ; exact m_iret X hr hlk hM dX10_ofTestimony_61 rfl ⟨rfl, h_mo⟩
      · skip
        exfalso; omega
set_option maxHeartbeats 4000000 in
set_option maxRecDepth 20000 in
theorem c_X10_ofTestimony_t2_2 (l : Launch) (E : Nat → Nat → Nat) (b : Nat) (mo : Nat → Int → Int) (co : Nat → Int → Int) (k : Int) (w : Int) (hO : OkC co) (hR : RelC co (mo 1)) (hI : TsI co) (gk : Rg k) (gw : Rg w) (p0 : 0 ≤ k ∧ k < co 0 0) (p1 : 0 ≤ w ∧ w < co 0 1) (nk : ¬ (0 < co 9 (k * 8 + w))) : Mu l yX10_ofTestimony cX10_ofTestimony 4 (some .int) 2 0 0 E [(b, 5)] [.ref b, .int (zI k), .int (zI w), .int (zI 2)] (fun H => PR E b (modelW E b mo) H) (fun rv H => rv = some (.int (zI 0)) ∧ PR E b (modelW E b (updC mo 0 (updZ (mo 0) 0 2))) H) := by
  refine Mu.start (own := RX10) rfl (by decide +kernel) (Nat.le_of_ble_eq_true rfl) ?_
  intro p e s m below meth cd args Q hQ X hr hlk hnm hM hPr
  have h_mo := hPr
  have hb0 := hO.b0
  have hbw := hO.bw
  have hr0 := hR.s0
  have hr1 := hR.s1
  have hsp := swC_iff (co := co) (k := k) (w := w) hO hI (by omega) (by omega) (by omega) (by omega)
  refine v_aload_n X dX10_ofTestimony_0 1 rfl 0 rfl ?_
  refine v_aload_n X dX10_ofTestimony_1 2 rfl 0 rfl ?_
  refine v_iload_n X dX10_ofTestimony_2 3 rfl 1 rfl ?_
  refine v_rdV X hM.C h_mo.1 (c_X10_isCase l E b mo co k hO hR gk) kvX10_isCase kiX10_isCase kl_X10_92 rfl rfl (As := [.int (zI k)]) rfl rfl rfl dX10_ofTestimony_3 6 rfl ?_
  show V p l e (rmL 2 0 0) s m args below meth cd Q 4 s.heap [] 0 0 6 [(0, .ref b), (1, .int (zI k)), (2, .int (zI w)), (3, .int (zI 2))] [.int (zI (bz (0 ≤ k ∧ k < co 0 0))), .ref b]
  refine v_bif_eq X dX10_ofTestimony_6 9 17 rfl (by decide) (fun c_1 => ?_) (fun c_1 => ?_)
  · skip
    exfalso; first | omega | contradiction
  · skip
    refine v_aload_n X dX10_ofTestimony_9 10 rfl 0 rfl ?_
    refine v_iload_n X dX10_ofTestimony_10 11 rfl 2 rfl ?_
    refine v_rdV X hM.C h_mo.1 (c_X10_isWitness l E b mo co w hO hR gw) kvX10_isWitness kiX10_isWitness kl_X10_95 rfl rfl (As := [.int (zI w)]) rfl rfl rfl dX10_ofTestimony_11 14 rfl ?_
    show V p l e (rmL 2 0 0) s m args below meth cd Q 4 s.heap [] 0 0 14 [(0, .ref b), (1, .int (zI k)), (2, .int (zI w)), (3, .int (zI 2))] [.int (zI (bz (0 ≤ w ∧ w < co 0 1))), .ref b]
    refine v_bif_ne X dX10_ofTestimony_14 17 21 rfl (by decide) (fun c_2 => ?_) (fun c_2 => ?_)
    · skip
      refine v_aload_n X dX10_ofTestimony_21 22 rfl 0 rfl ?_
      refine v_iload_n X dX10_ofTestimony_22 23 rfl 1 rfl ?_
      refine v_iload_n X dX10_ofTestimony_23 24 rfl 2 rfl ?_
      have hb_3 := hO.b0
      refine v_rdV X hM.C h_mo.1 (c_X10_spokenBy l E b mo co k w hO hR (by omega) (by omega) gw) kvX10_spokenBy kiX10_spokenBy kl_X10_98 rfl rfl (As := [.int (zI k), .int (zI w)]) rfl rfl rfl dX10_ofTestimony_24 27 rfl ?_
      show V p l e (rmL 2 0 0) s m args below meth cd Q 4 s.heap [] 0 0 27 [(0, .ref b), (1, .int (zI k)), (2, .int (zI w)), (3, .int (zI 2))] [.int (zI (swC co k w)), .ref b]
      have hf_4 := swC_b hO k w
      refine v_if_ge X (by omega) dX10_ofTestimony_27 30 34 rfl (by decide) (fun c_5 => ?_) (fun c_5 => ?_)
      · skip
        refine v_iconst X dX10_ofTestimony_34 35 rfl ?_
        refine v_putf X hM h_mo ftX10 0 rfl rfl 0 (by decide) kf_X10_30 (fun _ h => h) rfl rfl rfl (Nat.le_of_ble_eq_true rfl) (Or.inl (fsH (by omega) (by omega))) dX10_ofTestimony_35 38 rfl (ws' := modelW E b (updC mo 0 (updZ (mo 0) 0 0))) rfl (fun H6 lo6 hzz hM hF h_mo => ?_)
        clear hzz
        refine v_aload_n X dX10_ofTestimony_38 39 rfl 0 rfl ?_
        refine v_getf X hM.C h_mo.1 inX10 0 rfl rfl 0 (by decide) kf_X10_30 (fun _ h => h) rfl dX10_ofTestimony_39 42 rfl ?_
        show V p l e (rmL 2 0 0) s m args below meth cd Q 4 H6 lo6 0 0 42 [(0, .ref b), (1, .int (zI k)), (2, .int (zI w)), (3, .int (zI 2))] [.int (zI 0)]
        refine v_if_ne X (by omega) dX10_ofTestimony_42 45 60 rfl (by decide) (fun c_7 => ?_) (fun c_7 => ?_)
        · skip
          exfalso; omega
        · skip
          refine v_aload_n X dX10_ofTestimony_45 46 rfl 0 rfl ?_
          refine v_iload_n X dX10_ofTestimony_46 47 rfl 1 rfl ?_
          refine v_aload_n X dX10_ofTestimony_47 48 rfl 0 rfl ?_
          refine v_iload_n X dX10_ofTestimony_48 49 rfl 1 rfl ?_
          refine v_iload_n X dX10_ofTestimony_49 50 rfl 2 rfl ?_
          refine v_rdV X hM.C h_mo.1 (c_X10_spokenBy l E b (updC mo 0 (updZ (mo 0) 0 0)) co k w hO hR (by omega) (by omega) gw) kvX10_spokenBy kiX10_spokenBy kl_X10_98 rfl rfl (As := [.int (zI k), .int (zI w)]) rfl rfl rfl dX10_ofTestimony_50 53 rfl ?_
          show V p l e (rmL 2 0 0) s m args below meth cd Q 4 H6 lo6 0 0 53 [(0, .ref b), (1, .int (zI k)), (2, .int (zI w)), (3, .int (zI 2))] [.int (zI (swC co k w)), .int (zI k), .ref b]
          have hf_8 := swC_b hO k w
          refine v_iload_n X dX10_ofTestimony_53 54 rfl 3 rfl ?_
          have hb_9 := hO.b6 k
          refine v_rdV X hM.C h_mo.1 (c_X10_t_2 l E b (updC mo 0 (updZ (mo 0) 0 0)) co k (swC co k w) hO hR (by omega) (by omega) (by omega) (by omega)) kvX10_t kiX10_t kl_X10_51 rfl rfl (As := [.int (zI k), .int (zI (swC co k w)), .int (zI 2)]) rfl rfl rfl dX10_ofTestimony_54 57 rfl ?_
          show V p l e (rmL 2 0 0) s m args below meth cd Q 4 H6 lo6 0 0 57 [(0, .ref b), (1, .int (zI k)), (2, .int (zI w)), (3, .int (zI 2))] [.int (zI (co 9 (k * 8 + co 7 (k * 6 + (swC co k w)))))]
          have hb_10 := hO.b9 (k * 8 + co 7 (k * 6 + (swC co k w)))
          have hb_11 := hO.b7 (k * 6 + (swC co k w))
          refine v_goto X dX10_ofTestimony_57 61 (by decide) ?_
          exfalso; omega
      · skip
        refine v_iconst X dX10_ofTestimony_30 31 rfl ?_
        refine v_goto X dX10_ofTestimony_31 35 (by decide) ?_
        refine v_putf X hM h_mo ftX10 0 rfl rfl 0 (by decide) kf_X10_30 (fun _ h => h) rfl rfl rfl (Nat.le_of_ble_eq_true rfl) (Or.inl (fsH (by omega) (by omega))) dX10_ofTestimony_35 38 rfl (ws' := modelW E b (updC mo 0 (updZ (mo 0) 0 2))) rfl (fun H12 lo12 hzz hM hF h_mo => ?_)
        clear hzz
        refine v_aload_n X dX10_ofTestimony_38 39 rfl 0 rfl ?_
        refine v_getf X hM.C h_mo.1 inX10 0 rfl rfl 0 (by decide) kf_X10_30 (fun _ h => h) rfl dX10_ofTestimony_39 42 rfl ?_
        show V p l e (rmL 2 0 0) s m args below meth cd Q 4 H12 lo12 0 0 42 [(0, .ref b), (1, .int (zI k)), (2, .int (zI w)), (3, .int (zI 2))] [.int (zI 2)]
        refine v_if_ne X (by omega) dX10_ofTestimony_42 45 60 rfl (by decide) (fun c_13 => ?_) (fun c_13 => ?_)
        · skip
          refine v_iconst X dX10_ofTestimony_60 61 rfl ?_
          subst hQ; exact m_iret X hr hlk hM dX10_ofTestimony_61 rfl ⟨rfl, h_mo⟩
        · skip
          exfalso; omega
    · skip
      exfalso; first | omega | contradiction
set_option maxHeartbeats 4000000 in
set_option maxRecDepth 20000 in
theorem c_X10_ofTestimony_t3 (l : Launch) (E : Nat → Nat → Nat) (b : Nat) (mo : Nat → Int → Int) (co : Nat → Int → Int) (k : Int) (w : Int) (hO : OkC co) (hR : RelC co (mo 1)) (hI : TsI co) (gk : Rg k) (gw : Rg w) (p0 : 0 ≤ k ∧ k < co 0 0) (p1 : 0 ≤ w ∧ w < co 0 1) (p2 : 0 < co 9 (k * 8 + w)) : Mu l yX10_ofTestimony cX10_ofTestimony 4 (some .int) 2 0 0 E [(b, 5)] [.ref b, .int (zI k), .int (zI w), .int (zI 3)] (fun H => PR E b (modelW E b mo) H) (fun rv H => rv = some (.int (zI (co 10 (k * 8 + w)))) ∧ PR E b (modelW E b (updC mo 0 (updZ (mo 0) 0 0))) H) := by
  refine Mu.start (own := RX10) rfl (by decide +kernel) (Nat.le_of_ble_eq_true rfl) ?_
  intro p e s m below meth cd args Q hQ X hr hlk hnm hM hPr
  have h_mo := hPr
  have hb0 := hO.b0
  have hbw := hO.bw
  have hr0 := hR.s0
  have hr1 := hR.s1
  have hsp := swC_iff (co := co) (k := k) (w := w) hO hI (by omega) (by omega) (by omega) (by omega)
  refine v_aload_n X dX10_ofTestimony_0 1 rfl 0 rfl ?_
  refine v_aload_n X dX10_ofTestimony_1 2 rfl 0 rfl ?_
  refine v_iload_n X dX10_ofTestimony_2 3 rfl 1 rfl ?_
  refine v_rdV X hM.C h_mo.1 (c_X10_isCase l E b mo co k hO hR gk) kvX10_isCase kiX10_isCase kl_X10_92 rfl rfl (As := [.int (zI k)]) rfl rfl rfl dX10_ofTestimony_3 6 rfl ?_
  show V p l e (rmL 2 0 0) s m args below meth cd Q 4 s.heap [] 0 0 6 [(0, .ref b), (1, .int (zI k)), (2, .int (zI w)), (3, .int (zI 3))] [.int (zI (bz (0 ≤ k ∧ k < co 0 0))), .ref b]
  refine v_bif_eq X dX10_ofTestimony_6 9 17 rfl (by decide) (fun c_1 => ?_) (fun c_1 => ?_)
  · skip
    exfalso; first | omega | contradiction
  · skip
    refine v_aload_n X dX10_ofTestimony_9 10 rfl 0 rfl ?_
    refine v_iload_n X dX10_ofTestimony_10 11 rfl 2 rfl ?_
    refine v_rdV X hM.C h_mo.1 (c_X10_isWitness l E b mo co w hO hR gw) kvX10_isWitness kiX10_isWitness kl_X10_95 rfl rfl (As := [.int (zI w)]) rfl rfl rfl dX10_ofTestimony_11 14 rfl ?_
    show V p l e (rmL 2 0 0) s m args below meth cd Q 4 s.heap [] 0 0 14 [(0, .ref b), (1, .int (zI k)), (2, .int (zI w)), (3, .int (zI 3))] [.int (zI (bz (0 ≤ w ∧ w < co 0 1))), .ref b]
    refine v_bif_ne X dX10_ofTestimony_14 17 21 rfl (by decide) (fun c_2 => ?_) (fun c_2 => ?_)
    · skip
      refine v_aload_n X dX10_ofTestimony_21 22 rfl 0 rfl ?_
      refine v_iload_n X dX10_ofTestimony_22 23 rfl 1 rfl ?_
      refine v_iload_n X dX10_ofTestimony_23 24 rfl 2 rfl ?_
      have hb_3 := hO.b0
      refine v_rdV X hM.C h_mo.1 (c_X10_spokenBy l E b mo co k w hO hR (by omega) (by omega) gw) kvX10_spokenBy kiX10_spokenBy kl_X10_98 rfl rfl (As := [.int (zI k), .int (zI w)]) rfl rfl rfl dX10_ofTestimony_24 27 rfl ?_
      show V p l e (rmL 2 0 0) s m args below meth cd Q 4 s.heap [] 0 0 27 [(0, .ref b), (1, .int (zI k)), (2, .int (zI w)), (3, .int (zI 3))] [.int (zI (swC co k w)), .ref b]
      have hf_4 := swC_b hO k w
      refine v_if_ge X (by omega) dX10_ofTestimony_27 30 34 rfl (by decide) (fun c_5 => ?_) (fun c_5 => ?_)
      · skip
        refine v_iconst X dX10_ofTestimony_34 35 rfl ?_
        refine v_putf X hM h_mo ftX10 0 rfl rfl 0 (by decide) kf_X10_30 (fun _ h => h) rfl rfl rfl (Nat.le_of_ble_eq_true rfl) (Or.inl (fsH (by omega) (by omega))) dX10_ofTestimony_35 38 rfl (ws' := modelW E b (updC mo 0 (updZ (mo 0) 0 0))) rfl (fun H6 lo6 hzz hM hF h_mo => ?_)
        clear hzz
        refine v_aload_n X dX10_ofTestimony_38 39 rfl 0 rfl ?_
        refine v_getf X hM.C h_mo.1 inX10 0 rfl rfl 0 (by decide) kf_X10_30 (fun _ h => h) rfl dX10_ofTestimony_39 42 rfl ?_
        show V p l e (rmL 2 0 0) s m args below meth cd Q 4 H6 lo6 0 0 42 [(0, .ref b), (1, .int (zI k)), (2, .int (zI w)), (3, .int (zI 3))] [.int (zI 0)]
        refine v_if_ne X (by omega) dX10_ofTestimony_42 45 60 rfl (by decide) (fun c_7 => ?_) (fun c_7 => ?_)
        · skip
          exfalso; omega
        · skip
          refine v_aload_n X dX10_ofTestimony_45 46 rfl 0 rfl ?_
          refine v_iload_n X dX10_ofTestimony_46 47 rfl 1 rfl ?_
          refine v_aload_n X dX10_ofTestimony_47 48 rfl 0 rfl ?_
          refine v_iload_n X dX10_ofTestimony_48 49 rfl 1 rfl ?_
          refine v_iload_n X dX10_ofTestimony_49 50 rfl 2 rfl ?_
          refine v_rdV X hM.C h_mo.1 (c_X10_spokenBy l E b (updC mo 0 (updZ (mo 0) 0 0)) co k w hO hR (by omega) (by omega) gw) kvX10_spokenBy kiX10_spokenBy kl_X10_98 rfl rfl (As := [.int (zI k), .int (zI w)]) rfl rfl rfl dX10_ofTestimony_50 53 rfl ?_
          show V p l e (rmL 2 0 0) s m args below meth cd Q 4 H6 lo6 0 0 53 [(0, .ref b), (1, .int (zI k)), (2, .int (zI w)), (3, .int (zI 3))] [.int (zI (swC co k w)), .int (zI k), .ref b]
          have hf_8 := swC_b hO k w
          refine v_iload_n X dX10_ofTestimony_53 54 rfl 3 rfl ?_
          have hb_9 := hO.b6 k
          refine v_rdV X hM.C h_mo.1 (c_X10_t_3 l E b (updC mo 0 (updZ (mo 0) 0 0)) co k (swC co k w) hO hR (by omega) (by omega) (by omega) (by omega)) kvX10_t kiX10_t kl_X10_51 rfl rfl (As := [.int (zI k), .int (zI (swC co k w)), .int (zI 3)]) rfl rfl rfl dX10_ofTestimony_54 57 rfl ?_
          show V p l e (rmL 2 0 0) s m args below meth cd Q 4 H6 lo6 0 0 57 [(0, .ref b), (1, .int (zI k)), (2, .int (zI w)), (3, .int (zI 3))] [.int (zI (co 10 (k * 8 + co 7 (k * 6 + (swC co k w)))))]
          have hb_10 := hO.b10 (k * 8 + co 7 (k * 6 + (swC co k w)))
          have hb_11 := hO.b7 (k * 6 + (swC co k w))
          refine v_goto X dX10_ofTestimony_57 61 (by decide) ?_
          subst hQ; exact m_iret X hr hlk hM dX10_ofTestimony_61 rfl ⟨(sv (by rw [swC_at (co := co) (k := k) (w := w) (by omega)])), h_mo⟩
      · skip
        refine v_iconst X dX10_ofTestimony_30 31 rfl ?_
        refine v_goto X dX10_ofTestimony_31 35 (by decide) ?_
        refine v_putf X hM h_mo ftX10 0 rfl rfl 0 (by decide) kf_X10_30 (fun _ h => h) rfl rfl rfl (Nat.le_of_ble_eq_true rfl) (Or.inl (fsH (by omega) (by omega))) dX10_ofTestimony_35 38 rfl (ws' := modelW E b (updC mo 0 (updZ (mo 0) 0 2))) rfl (fun H12 lo12 hzz hM hF h_mo => ?_)
        clear hzz
        refine v_aload_n X dX10_ofTestimony_38 39 rfl 0 rfl ?_
        refine v_getf X hM.C h_mo.1 inX10 0 rfl rfl 0 (by decide) kf_X10_30 (fun _ h => h) rfl dX10_ofTestimony_39 42 rfl ?_
        show V p l e (rmL 2 0 0) s m args below meth cd Q 4 H12 lo12 0 0 42 [(0, .ref b), (1, .int (zI k)), (2, .int (zI w)), (3, .int (zI 3))] [.int (zI 2)]
        refine v_if_ne X (by omega) dX10_ofTestimony_42 45 60 rfl (by decide) (fun c_13 => ?_) (fun c_13 => ?_)
        · skip
          refine v_iconst X dX10_ofTestimony_60 61 rfl ?_
          exfalso; omega
        · skip
          exfalso; omega
    · skip
      exfalso; first | omega | contradiction
set_option maxHeartbeats 4000000 in
set_option maxRecDepth 20000 in
theorem c_X10_ofTestimony_t3_0 (l : Launch) (E : Nat → Nat → Nat) (b : Nat) (mo : Nat → Int → Int) (co : Nat → Int → Int) (k : Int) (w : Int) (hO : OkC co) (hR : RelC co (mo 1)) (hI : TsI co) (gk : Rg k) (gw : Rg w) (nk : ¬ (0 ≤ k ∧ k < co 0 0)) : Mu l yX10_ofTestimony cX10_ofTestimony 4 (some .int) 2 0 0 E [(b, 5)] [.ref b, .int (zI k), .int (zI w), .int (zI 3)] (fun H => PR E b (modelW E b mo) H) (fun rv H => rv = some (.int (zI 0)) ∧ PR E b (modelW E b (updC mo 0 (updZ (mo 0) 0 1))) H) := by
  refine Mu.start (own := RX10) rfl (by decide +kernel) (Nat.le_of_ble_eq_true rfl) ?_
  intro p e s m below meth cd args Q hQ X hr hlk hnm hM hPr
  have h_mo := hPr
  have hb0 := hO.b0
  have hbw := hO.bw
  have hr0 := hR.s0
  have hr1 := hR.s1
  refine v_aload_n X dX10_ofTestimony_0 1 rfl 0 rfl ?_
  refine v_aload_n X dX10_ofTestimony_1 2 rfl 0 rfl ?_
  refine v_iload_n X dX10_ofTestimony_2 3 rfl 1 rfl ?_
  refine v_rdV X hM.C h_mo.1 (c_X10_isCase l E b mo co k hO hR gk) kvX10_isCase kiX10_isCase kl_X10_92 rfl rfl (As := [.int (zI k)]) rfl rfl rfl dX10_ofTestimony_3 6 rfl ?_
  show V p l e (rmL 2 0 0) s m args below meth cd Q 4 s.heap [] 0 0 6 [(0, .ref b), (1, .int (zI k)), (2, .int (zI w)), (3, .int (zI 3))] [.int (zI (bz (0 ≤ k ∧ k < co 0 0))), .ref b]
  refine v_bif_eq X dX10_ofTestimony_6 9 17 rfl (by decide) (fun c_1 => ?_) (fun c_1 => ?_)
  · skip
    refine v_iconst X dX10_ofTestimony_17 18 rfl ?_
    refine v_goto X dX10_ofTestimony_18 35 (by decide) ?_
    refine v_putf X hM h_mo ftX10 0 rfl rfl 0 (by decide) kf_X10_30 (fun _ h => h) rfl rfl rfl (Nat.le_of_ble_eq_true rfl) (Or.inl (fsH (by omega) (by omega))) dX10_ofTestimony_35 38 rfl (ws' := modelW E b (updC mo 0 (updZ (mo 0) 0 1))) rfl (fun H2 lo2 hzz hM hF h_mo => ?_)
    clear hzz
    refine v_aload_n X dX10_ofTestimony_38 39 rfl 0 rfl ?_
    refine v_getf X hM.C h_mo.1 inX10 0 rfl rfl 0 (by decide) kf_X10_30 (fun _ h => h) rfl dX10_ofTestimony_39 42 rfl ?_
    show V p l e (rmL 2 0 0) s m args below meth cd Q 4 H2 lo2 0 0 42 [(0, .ref b), (1, .int (zI k)), (2, .int (zI w)), (3, .int (zI 3))] [.int (zI 1)]
    refine v_if_ne X (by omega) dX10_ofTestimony_42 45 60 rfl (by decide) (fun c_3 => ?_) (fun c_3 => ?_)
    · skip
      refine v_iconst X dX10_ofTestimony_60 61 rfl ?_
      subst hQ; exact m_iret X hr hlk hM dX10_ofTestimony_61 rfl ⟨rfl, h_mo⟩
    · skip
      exfalso; omega
  · skip
    exfalso; first | omega | contradiction
set_option maxHeartbeats 4000000 in
set_option maxRecDepth 20000 in
theorem c_X10_ofTestimony_t3_1 (l : Launch) (E : Nat → Nat → Nat) (b : Nat) (mo : Nat → Int → Int) (co : Nat → Int → Int) (k : Int) (w : Int) (hO : OkC co) (hR : RelC co (mo 1)) (hI : TsI co) (gk : Rg k) (gw : Rg w) (p0 : 0 ≤ k ∧ k < co 0 0) (nk : ¬ (0 ≤ w ∧ w < co 0 1)) : Mu l yX10_ofTestimony cX10_ofTestimony 4 (some .int) 2 0 0 E [(b, 5)] [.ref b, .int (zI k), .int (zI w), .int (zI 3)] (fun H => PR E b (modelW E b mo) H) (fun rv H => rv = some (.int (zI 0)) ∧ PR E b (modelW E b (updC mo 0 (updZ (mo 0) 0 1))) H) := by
  refine Mu.start (own := RX10) rfl (by decide +kernel) (Nat.le_of_ble_eq_true rfl) ?_
  intro p e s m below meth cd args Q hQ X hr hlk hnm hM hPr
  have h_mo := hPr
  have hb0 := hO.b0
  have hbw := hO.bw
  have hr0 := hR.s0
  have hr1 := hR.s1
  refine v_aload_n X dX10_ofTestimony_0 1 rfl 0 rfl ?_
  refine v_aload_n X dX10_ofTestimony_1 2 rfl 0 rfl ?_
  refine v_iload_n X dX10_ofTestimony_2 3 rfl 1 rfl ?_
  refine v_rdV X hM.C h_mo.1 (c_X10_isCase l E b mo co k hO hR gk) kvX10_isCase kiX10_isCase kl_X10_92 rfl rfl (As := [.int (zI k)]) rfl rfl rfl dX10_ofTestimony_3 6 rfl ?_
  show V p l e (rmL 2 0 0) s m args below meth cd Q 4 s.heap [] 0 0 6 [(0, .ref b), (1, .int (zI k)), (2, .int (zI w)), (3, .int (zI 3))] [.int (zI (bz (0 ≤ k ∧ k < co 0 0))), .ref b]
  refine v_bif_eq X dX10_ofTestimony_6 9 17 rfl (by decide) (fun c_1 => ?_) (fun c_1 => ?_)
  · skip
    exfalso; first | omega | contradiction
  · skip
    refine v_aload_n X dX10_ofTestimony_9 10 rfl 0 rfl ?_
    refine v_iload_n X dX10_ofTestimony_10 11 rfl 2 rfl ?_
    refine v_rdV X hM.C h_mo.1 (c_X10_isWitness l E b mo co w hO hR gw) kvX10_isWitness kiX10_isWitness kl_X10_95 rfl rfl (As := [.int (zI w)]) rfl rfl rfl dX10_ofTestimony_11 14 rfl ?_
    show V p l e (rmL 2 0 0) s m args below meth cd Q 4 s.heap [] 0 0 14 [(0, .ref b), (1, .int (zI k)), (2, .int (zI w)), (3, .int (zI 3))] [.int (zI (bz (0 ≤ w ∧ w < co 0 1))), .ref b]
    refine v_bif_ne X dX10_ofTestimony_14 17 21 rfl (by decide) (fun c_2 => ?_) (fun c_2 => ?_)
    · skip
      exfalso; first | omega | contradiction
    · skip
      refine v_iconst X dX10_ofTestimony_17 18 rfl ?_
      refine v_goto X dX10_ofTestimony_18 35 (by decide) ?_
      refine v_putf X hM h_mo ftX10 0 rfl rfl 0 (by decide) kf_X10_30 (fun _ h => h) rfl rfl rfl (Nat.le_of_ble_eq_true rfl) (Or.inl (fsH (by omega) (by omega))) dX10_ofTestimony_35 38 rfl (ws' := modelW E b (updC mo 0 (updZ (mo 0) 0 1))) rfl (fun H3 lo3 hzz hM hF h_mo => ?_)
      clear hzz
      refine v_aload_n X dX10_ofTestimony_38 39 rfl 0 rfl ?_
      refine v_getf X hM.C h_mo.1 inX10 0 rfl rfl 0 (by decide) kf_X10_30 (fun _ h => h) rfl dX10_ofTestimony_39 42 rfl ?_
      show V p l e (rmL 2 0 0) s m args below meth cd Q 4 H3 lo3 0 0 42 [(0, .ref b), (1, .int (zI k)), (2, .int (zI w)), (3, .int (zI 3))] [.int (zI 1)]
      refine v_if_ne X (by omega) dX10_ofTestimony_42 45 60 rfl (by decide) (fun c_4 => ?_) (fun c_4 => ?_)
      · skip
        refine v_iconst X dX10_ofTestimony_60 61 rfl ?_
        subst hQ; exact m_iret X hr hlk hM dX10_ofTestimony_61 rfl ⟨rfl, h_mo⟩
      · skip
        exfalso; omega
set_option maxHeartbeats 4000000 in
set_option maxRecDepth 20000 in
theorem c_X10_ofTestimony_t3_2 (l : Launch) (E : Nat → Nat → Nat) (b : Nat) (mo : Nat → Int → Int) (co : Nat → Int → Int) (k : Int) (w : Int) (hO : OkC co) (hR : RelC co (mo 1)) (hI : TsI co) (gk : Rg k) (gw : Rg w) (p0 : 0 ≤ k ∧ k < co 0 0) (p1 : 0 ≤ w ∧ w < co 0 1) (nk : ¬ (0 < co 9 (k * 8 + w))) : Mu l yX10_ofTestimony cX10_ofTestimony 4 (some .int) 2 0 0 E [(b, 5)] [.ref b, .int (zI k), .int (zI w), .int (zI 3)] (fun H => PR E b (modelW E b mo) H) (fun rv H => rv = some (.int (zI 0)) ∧ PR E b (modelW E b (updC mo 0 (updZ (mo 0) 0 2))) H) := by
  refine Mu.start (own := RX10) rfl (by decide +kernel) (Nat.le_of_ble_eq_true rfl) ?_
  intro p e s m below meth cd args Q hQ X hr hlk hnm hM hPr
  have h_mo := hPr
  have hb0 := hO.b0
  have hbw := hO.bw
  have hr0 := hR.s0
  have hr1 := hR.s1
  have hsp := swC_iff (co := co) (k := k) (w := w) hO hI (by omega) (by omega) (by omega) (by omega)
  refine v_aload_n X dX10_ofTestimony_0 1 rfl 0 rfl ?_
  refine v_aload_n X dX10_ofTestimony_1 2 rfl 0 rfl ?_
  refine v_iload_n X dX10_ofTestimony_2 3 rfl 1 rfl ?_
  refine v_rdV X hM.C h_mo.1 (c_X10_isCase l E b mo co k hO hR gk) kvX10_isCase kiX10_isCase kl_X10_92 rfl rfl (As := [.int (zI k)]) rfl rfl rfl dX10_ofTestimony_3 6 rfl ?_
  show V p l e (rmL 2 0 0) s m args below meth cd Q 4 s.heap [] 0 0 6 [(0, .ref b), (1, .int (zI k)), (2, .int (zI w)), (3, .int (zI 3))] [.int (zI (bz (0 ≤ k ∧ k < co 0 0))), .ref b]
  refine v_bif_eq X dX10_ofTestimony_6 9 17 rfl (by decide) (fun c_1 => ?_) (fun c_1 => ?_)
  · skip
    exfalso; first | omega | contradiction
  · skip
    refine v_aload_n X dX10_ofTestimony_9 10 rfl 0 rfl ?_
    refine v_iload_n X dX10_ofTestimony_10 11 rfl 2 rfl ?_
    refine v_rdV X hM.C h_mo.1 (c_X10_isWitness l E b mo co w hO hR gw) kvX10_isWitness kiX10_isWitness kl_X10_95 rfl rfl (As := [.int (zI w)]) rfl rfl rfl dX10_ofTestimony_11 14 rfl ?_
    show V p l e (rmL 2 0 0) s m args below meth cd Q 4 s.heap [] 0 0 14 [(0, .ref b), (1, .int (zI k)), (2, .int (zI w)), (3, .int (zI 3))] [.int (zI (bz (0 ≤ w ∧ w < co 0 1))), .ref b]
    refine v_bif_ne X dX10_ofTestimony_14 17 21 rfl (by decide) (fun c_2 => ?_) (fun c_2 => ?_)
    · skip
      refine v_aload_n X dX10_ofTestimony_21 22 rfl 0 rfl ?_
      refine v_iload_n X dX10_ofTestimony_22 23 rfl 1 rfl ?_
      refine v_iload_n X dX10_ofTestimony_23 24 rfl 2 rfl ?_
      have hb_3 := hO.b0
      refine v_rdV X hM.C h_mo.1 (c_X10_spokenBy l E b mo co k w hO hR (by omega) (by omega) gw) kvX10_spokenBy kiX10_spokenBy kl_X10_98 rfl rfl (As := [.int (zI k), .int (zI w)]) rfl rfl rfl dX10_ofTestimony_24 27 rfl ?_
      show V p l e (rmL 2 0 0) s m args below meth cd Q 4 s.heap [] 0 0 27 [(0, .ref b), (1, .int (zI k)), (2, .int (zI w)), (3, .int (zI 3))] [.int (zI (swC co k w)), .ref b]
      have hf_4 := swC_b hO k w
      refine v_if_ge X (by omega) dX10_ofTestimony_27 30 34 rfl (by decide) (fun c_5 => ?_) (fun c_5 => ?_)
      · skip
        refine v_iconst X dX10_ofTestimony_34 35 rfl ?_
        refine v_putf X hM h_mo ftX10 0 rfl rfl 0 (by decide) kf_X10_30 (fun _ h => h) rfl rfl rfl (Nat.le_of_ble_eq_true rfl) (Or.inl (fsH (by omega) (by omega))) dX10_ofTestimony_35 38 rfl (ws' := modelW E b (updC mo 0 (updZ (mo 0) 0 0))) rfl (fun H6 lo6 hzz hM hF h_mo => ?_)
        clear hzz
        refine v_aload_n X dX10_ofTestimony_38 39 rfl 0 rfl ?_
        refine v_getf X hM.C h_mo.1 inX10 0 rfl rfl 0 (by decide) kf_X10_30 (fun _ h => h) rfl dX10_ofTestimony_39 42 rfl ?_
        show V p l e (rmL 2 0 0) s m args below meth cd Q 4 H6 lo6 0 0 42 [(0, .ref b), (1, .int (zI k)), (2, .int (zI w)), (3, .int (zI 3))] [.int (zI 0)]
        refine v_if_ne X (by omega) dX10_ofTestimony_42 45 60 rfl (by decide) (fun c_7 => ?_) (fun c_7 => ?_)
        · skip
          exfalso; omega
        · skip
          refine v_aload_n X dX10_ofTestimony_45 46 rfl 0 rfl ?_
          refine v_iload_n X dX10_ofTestimony_46 47 rfl 1 rfl ?_
          refine v_aload_n X dX10_ofTestimony_47 48 rfl 0 rfl ?_
          refine v_iload_n X dX10_ofTestimony_48 49 rfl 1 rfl ?_
          refine v_iload_n X dX10_ofTestimony_49 50 rfl 2 rfl ?_
          refine v_rdV X hM.C h_mo.1 (c_X10_spokenBy l E b (updC mo 0 (updZ (mo 0) 0 0)) co k w hO hR (by omega) (by omega) gw) kvX10_spokenBy kiX10_spokenBy kl_X10_98 rfl rfl (As := [.int (zI k), .int (zI w)]) rfl rfl rfl dX10_ofTestimony_50 53 rfl ?_
          show V p l e (rmL 2 0 0) s m args below meth cd Q 4 H6 lo6 0 0 53 [(0, .ref b), (1, .int (zI k)), (2, .int (zI w)), (3, .int (zI 3))] [.int (zI (swC co k w)), .int (zI k), .ref b]
          have hf_8 := swC_b hO k w
          refine v_iload_n X dX10_ofTestimony_53 54 rfl 3 rfl ?_
          have hb_9 := hO.b6 k
          refine v_rdV X hM.C h_mo.1 (c_X10_t_3 l E b (updC mo 0 (updZ (mo 0) 0 0)) co k (swC co k w) hO hR (by omega) (by omega) (by omega) (by omega)) kvX10_t kiX10_t kl_X10_51 rfl rfl (As := [.int (zI k), .int (zI (swC co k w)), .int (zI 3)]) rfl rfl rfl dX10_ofTestimony_54 57 rfl ?_
          show V p l e (rmL 2 0 0) s m args below meth cd Q 4 H6 lo6 0 0 57 [(0, .ref b), (1, .int (zI k)), (2, .int (zI w)), (3, .int (zI 3))] [.int (zI (co 10 (k * 8 + co 7 (k * 6 + (swC co k w)))))]
          have hb_10 := hO.b10 (k * 8 + co 7 (k * 6 + (swC co k w)))
          have hb_11 := hO.b7 (k * 6 + (swC co k w))
          refine v_goto X dX10_ofTestimony_57 61 (by decide) ?_
          exfalso; omega
      · skip
        refine v_iconst X dX10_ofTestimony_30 31 rfl ?_
        refine v_goto X dX10_ofTestimony_31 35 (by decide) ?_
        refine v_putf X hM h_mo ftX10 0 rfl rfl 0 (by decide) kf_X10_30 (fun _ h => h) rfl rfl rfl (Nat.le_of_ble_eq_true rfl) (Or.inl (fsH (by omega) (by omega))) dX10_ofTestimony_35 38 rfl (ws' := modelW E b (updC mo 0 (updZ (mo 0) 0 2))) rfl (fun H12 lo12 hzz hM hF h_mo => ?_)
        clear hzz
        refine v_aload_n X dX10_ofTestimony_38 39 rfl 0 rfl ?_
        refine v_getf X hM.C h_mo.1 inX10 0 rfl rfl 0 (by decide) kf_X10_30 (fun _ h => h) rfl dX10_ofTestimony_39 42 rfl ?_
        show V p l e (rmL 2 0 0) s m args below meth cd Q 4 H12 lo12 0 0 42 [(0, .ref b), (1, .int (zI k)), (2, .int (zI w)), (3, .int (zI 3))] [.int (zI 2)]
        refine v_if_ne X (by omega) dX10_ofTestimony_42 45 60 rfl (by decide) (fun c_13 => ?_) (fun c_13 => ?_)
        · skip
          refine v_iconst X dX10_ofTestimony_60 61 rfl ?_
          subst hQ; exact m_iret X hr hlk hM dX10_ofTestimony_61 rfl ⟨rfl, h_mo⟩
        · skip
          exfalso; omega
    · skip
      exfalso; first | omega | contradiction
set_option maxHeartbeats 4000000 in
set_option maxRecDepth 20000 in
theorem c_X10_isForProsecution (l : Launch) (E : Nat → Nat → Nat) (b : Nat) (mo : Nat → Int → Int) (co : Nat → Int → Int) (k : Int) (w : Int) (hO : OkC co) (hR : RelC co (mo 1)) (hI : TsI co) (gk : Rg k) (gw : Rg w) (p0 : 0 ≤ k ∧ k < co 0 0) (p1 : 0 ≤ w ∧ w < co 0 1) (p2 : 0 < co 9 (k * 8 + w)) : Mu l yX10_isForProsecution cX10_isForProsecution 3 (some .boolean) 3 0 0 E [(b, 5)] [.ref b, .int (zI k), .int (zI w)] (fun H => PR E b (modelW E b mo) H) (fun rv H => rv = some (.int (zI (bz (0 < co 8 (k * 8 + w))))) ∧ PR E b (modelW E b (updC mo 0 (updZ (mo 0) 0 0))) H) := by
  refine Mu.start (own := RX10) rfl (by decide +kernel) (Nat.le_of_ble_eq_true rfl) ?_
  intro p e s m below meth cd args Q hQ X hr hlk hnm hM hPr
  have h_mo := hPr
  have hb0 := hO.b0
  have hbw := hO.bw
  have hr0 := hR.s0
  have hr1 := hR.s1
  have hsw := hI.sw (k := k) (w := w) (by omega) (by omega) (by omega) (by omega) (by assumption)
  refine v_aload_n X dX10_isForProsecution_0 1 rfl 0 rfl ?_
  refine v_iload_n X dX10_isForProsecution_1 2 rfl 1 rfl ?_
  refine v_iload_n X dX10_isForProsecution_2 3 rfl 2 rfl ?_
  refine v_iconst X dX10_isForProsecution_3 4 rfl ?_
  refine v_muV X hM (h_mo.1) (c_X10_ofTestimony_t1 l E b mo co k w hO hR hI gk gw p0 p1 p2) kvX10_ofTestimony kiX10_ofTestimony kl_X10_131 (q0 := 0) rfl rfl (As := [.int (zI k), .int (zI w), .int (zI 1)]) rfl rfl rfl dX10_isForProsecution_4 7 rfl (k' := 0) (n' := 0) rfl rfl (fsI (fun q q1 q2 => (Or.inl (fsH (by omega) (by omega))))) h_mo (fun rv H1 lo1 hM hF hpo => ?_)
  obtain ⟨rfl, hw_0⟩ := hpo
  have h_mo : PR E b (modelW E b (updC mo 0 (updZ (mo 0) 0 0))) H1 := hw_0
  show V p l e (rmL 3 0 0) s m args below meth cd Q 3 H1 lo1 0 0 7 [(0, .ref b), (1, .int (zI k)), (2, .int (zI w))] [.int (zI ((co 8 (k * 8 + w) + 1) / 2))]
  have hb_2 := hO.b8 (k * 8 + w)
  refine v_iconst X dX10_isForProsecution_7 8 rfl ?_
  refine v_icmp_ne X (by omega) (by omega) dX10_isForProsecution_8 11 15 rfl (by decide) (fun c_3 => ?_) (fun c_3 => ?_)
  · skip
    refine v_iconst X dX10_isForProsecution_15 16 rfl ?_
    subst hQ; exact m_zret X hr hlk hM dX10_isForProsecution_16 rfl (by omega) ⟨(sv (bz_f (by omega))), h_mo⟩
  · skip
    refine v_iconst X dX10_isForProsecution_11 12 rfl ?_
    refine v_goto X dX10_isForProsecution_12 16 (by decide) ?_
    subst hQ; exact m_zret X hr hlk hM dX10_isForProsecution_16 rfl (by omega) ⟨(sv (bz_t (by omega))), h_mo⟩
set_option maxHeartbeats 4000000 in
set_option maxRecDepth 20000 in
theorem c_X10_isForProsecution_0 (l : Launch) (E : Nat → Nat → Nat) (b : Nat) (mo : Nat → Int → Int) (co : Nat → Int → Int) (k : Int) (w : Int) (hO : OkC co) (hR : RelC co (mo 1)) (hI : TsI co) (gk : Rg k) (gw : Rg w) (nk : ¬ (0 ≤ k ∧ k < co 0 0)) : Mu l yX10_isForProsecution cX10_isForProsecution 3 (some .boolean) 3 0 0 E [(b, 5)] [.ref b, .int (zI k), .int (zI w)] (fun H => PR E b (modelW E b mo) H) (fun rv H => rv = some (.int (zI 0)) ∧ PR E b (modelW E b (updC mo 0 (updZ (mo 0) 0 1))) H) := by
  refine Mu.start (own := RX10) rfl (by decide +kernel) (Nat.le_of_ble_eq_true rfl) ?_
  intro p e s m below meth cd args Q hQ X hr hlk hnm hM hPr
  have h_mo := hPr
  have hb0 := hO.b0
  have hbw := hO.bw
  have hr0 := hR.s0
  have hr1 := hR.s1
  refine v_aload_n X dX10_isForProsecution_0 1 rfl 0 rfl ?_
  refine v_iload_n X dX10_isForProsecution_1 2 rfl 1 rfl ?_
  refine v_iload_n X dX10_isForProsecution_2 3 rfl 2 rfl ?_
  refine v_iconst X dX10_isForProsecution_3 4 rfl ?_
  refine v_muV X hM (h_mo.1) (c_X10_ofTestimony_t1_0 l E b mo co k w hO hR hI gk gw nk) kvX10_ofTestimony kiX10_ofTestimony kl_X10_131 (q0 := 0) rfl rfl (As := [.int (zI k), .int (zI w), .int (zI 1)]) rfl rfl rfl dX10_isForProsecution_4 7 rfl (k' := 0) (n' := 0) rfl rfl (fsI (fun q q1 q2 => (Or.inl (fsH (by omega) (by omega))))) h_mo (fun rv H1 lo1 hM hF hpo => ?_)
  obtain ⟨rfl, hw_0⟩ := hpo
  have h_mo : PR E b (modelW E b (updC mo 0 (updZ (mo 0) 0 1))) H1 := hw_0
  show V p l e (rmL 3 0 0) s m args below meth cd Q 3 H1 lo1 0 0 7 [(0, .ref b), (1, .int (zI k)), (2, .int (zI w))] [.int (zI 0)]
  refine v_iconst X dX10_isForProsecution_7 8 rfl ?_
  refine v_icmp_ne X (by omega) (by omega) dX10_isForProsecution_8 11 15 rfl (by decide) (fun c_2 => ?_) (fun c_2 => ?_)
  · skip
    refine v_iconst X dX10_isForProsecution_15 16 rfl ?_
    subst hQ; exact m_zret X hr hlk hM dX10_isForProsecution_16 rfl (by omega) ⟨rfl, h_mo⟩
  · skip
    exfalso; omega
set_option maxHeartbeats 4000000 in
set_option maxRecDepth 20000 in
theorem c_X10_isForProsecution_1 (l : Launch) (E : Nat → Nat → Nat) (b : Nat) (mo : Nat → Int → Int) (co : Nat → Int → Int) (k : Int) (w : Int) (hO : OkC co) (hR : RelC co (mo 1)) (hI : TsI co) (gk : Rg k) (gw : Rg w) (p0 : 0 ≤ k ∧ k < co 0 0) (nk : ¬ (0 ≤ w ∧ w < co 0 1)) : Mu l yX10_isForProsecution cX10_isForProsecution 3 (some .boolean) 3 0 0 E [(b, 5)] [.ref b, .int (zI k), .int (zI w)] (fun H => PR E b (modelW E b mo) H) (fun rv H => rv = some (.int (zI 0)) ∧ PR E b (modelW E b (updC mo 0 (updZ (mo 0) 0 1))) H) := by
  refine Mu.start (own := RX10) rfl (by decide +kernel) (Nat.le_of_ble_eq_true rfl) ?_
  intro p e s m below meth cd args Q hQ X hr hlk hnm hM hPr
  have h_mo := hPr
  have hb0 := hO.b0
  have hbw := hO.bw
  have hr0 := hR.s0
  have hr1 := hR.s1
  refine v_aload_n X dX10_isForProsecution_0 1 rfl 0 rfl ?_
  refine v_iload_n X dX10_isForProsecution_1 2 rfl 1 rfl ?_
  refine v_iload_n X dX10_isForProsecution_2 3 rfl 2 rfl ?_
  refine v_iconst X dX10_isForProsecution_3 4 rfl ?_
  refine v_muV X hM (h_mo.1) (c_X10_ofTestimony_t1_1 l E b mo co k w hO hR hI gk gw p0 nk) kvX10_ofTestimony kiX10_ofTestimony kl_X10_131 (q0 := 0) rfl rfl (As := [.int (zI k), .int (zI w), .int (zI 1)]) rfl rfl rfl dX10_isForProsecution_4 7 rfl (k' := 0) (n' := 0) rfl rfl (fsI (fun q q1 q2 => (Or.inl (fsH (by omega) (by omega))))) h_mo (fun rv H1 lo1 hM hF hpo => ?_)
  obtain ⟨rfl, hw_0⟩ := hpo
  have h_mo : PR E b (modelW E b (updC mo 0 (updZ (mo 0) 0 1))) H1 := hw_0
  show V p l e (rmL 3 0 0) s m args below meth cd Q 3 H1 lo1 0 0 7 [(0, .ref b), (1, .int (zI k)), (2, .int (zI w))] [.int (zI 0)]
  refine v_iconst X dX10_isForProsecution_7 8 rfl ?_
  refine v_icmp_ne X (by omega) (by omega) dX10_isForProsecution_8 11 15 rfl (by decide) (fun c_2 => ?_) (fun c_2 => ?_)
  · skip
    refine v_iconst X dX10_isForProsecution_15 16 rfl ?_
    subst hQ; exact m_zret X hr hlk hM dX10_isForProsecution_16 rfl (by omega) ⟨rfl, h_mo⟩
  · skip
    exfalso; omega
set_option maxHeartbeats 4000000 in
set_option maxRecDepth 20000 in
theorem c_X10_isForProsecution_2 (l : Launch) (E : Nat → Nat → Nat) (b : Nat) (mo : Nat → Int → Int) (co : Nat → Int → Int) (k : Int) (w : Int) (hO : OkC co) (hR : RelC co (mo 1)) (hI : TsI co) (gk : Rg k) (gw : Rg w) (p0 : 0 ≤ k ∧ k < co 0 0) (p1 : 0 ≤ w ∧ w < co 0 1) (nk : ¬ (0 < co 9 (k * 8 + w))) : Mu l yX10_isForProsecution cX10_isForProsecution 3 (some .boolean) 3 0 0 E [(b, 5)] [.ref b, .int (zI k), .int (zI w)] (fun H => PR E b (modelW E b mo) H) (fun rv H => rv = some (.int (zI 0)) ∧ PR E b (modelW E b (updC mo 0 (updZ (mo 0) 0 2))) H) := by
  refine Mu.start (own := RX10) rfl (by decide +kernel) (Nat.le_of_ble_eq_true rfl) ?_
  intro p e s m below meth cd args Q hQ X hr hlk hnm hM hPr
  have h_mo := hPr
  have hb0 := hO.b0
  have hbw := hO.bw
  have hr0 := hR.s0
  have hr1 := hR.s1
  refine v_aload_n X dX10_isForProsecution_0 1 rfl 0 rfl ?_
  refine v_iload_n X dX10_isForProsecution_1 2 rfl 1 rfl ?_
  refine v_iload_n X dX10_isForProsecution_2 3 rfl 2 rfl ?_
  refine v_iconst X dX10_isForProsecution_3 4 rfl ?_
  refine v_muV X hM (h_mo.1) (c_X10_ofTestimony_t1_2 l E b mo co k w hO hR hI gk gw p0 p1 nk) kvX10_ofTestimony kiX10_ofTestimony kl_X10_131 (q0 := 0) rfl rfl (As := [.int (zI k), .int (zI w), .int (zI 1)]) rfl rfl rfl dX10_isForProsecution_4 7 rfl (k' := 0) (n' := 0) rfl rfl (fsI (fun q q1 q2 => (Or.inl (fsH (by omega) (by omega))))) h_mo (fun rv H1 lo1 hM hF hpo => ?_)
  obtain ⟨rfl, hw_0⟩ := hpo
  have h_mo : PR E b (modelW E b (updC mo 0 (updZ (mo 0) 0 2))) H1 := hw_0
  show V p l e (rmL 3 0 0) s m args below meth cd Q 3 H1 lo1 0 0 7 [(0, .ref b), (1, .int (zI k)), (2, .int (zI w))] [.int (zI 0)]
  refine v_iconst X dX10_isForProsecution_7 8 rfl ?_
  refine v_icmp_ne X (by omega) (by omega) dX10_isForProsecution_8 11 15 rfl (by decide) (fun c_2 => ?_) (fun c_2 => ?_)
  · skip
    refine v_iconst X dX10_isForProsecution_15 16 rfl ?_
    subst hQ; exact m_zret X hr hlk hM dX10_isForProsecution_16 rfl (by omega) ⟨rfl, h_mo⟩
  · skip
    exfalso; omega
set_option maxHeartbeats 4000000 in
set_option maxRecDepth 20000 in
theorem c_X10_strength (l : Launch) (E : Nat → Nat → Nat) (b : Nat) (mo : Nat → Int → Int) (co : Nat → Int → Int) (k : Int) (w : Int) (hO : OkC co) (hR : RelC co (mo 1)) (hI : TsI co) (gk : Rg k) (gw : Rg w) (p0 : 0 ≤ k ∧ k < co 0 0) (p1 : 0 ≤ w ∧ w < co 0 1) (p2 : 0 < co 9 (k * 8 + w)) : Mu l yX10_strength cX10_strength 3 (some .int) 3 0 0 E [(b, 5)] [.ref b, .int (zI k), .int (zI w)] (fun H => PR E b (modelW E b mo) H) (fun rv H => rv = some (.int (zI (co 9 (k * 8 + w)))) ∧ PR E b (modelW E b (updC mo 0 (updZ (mo 0) 0 0))) H) := by
  refine Mu.start (own := RX10) rfl (by decide +kernel) (Nat.le_of_ble_eq_true rfl) ?_
  intro p e s m below meth cd args Q hQ X hr hlk hnm hM hPr
  have h_mo := hPr
  have hb0 := hO.b0
  have hbw := hO.bw
  have hr0 := hR.s0
  have hr1 := hR.s1
  refine v_aload_n X dX10_strength_0 1 rfl 0 rfl ?_
  refine v_iload_n X dX10_strength_1 2 rfl 1 rfl ?_
  refine v_iload_n X dX10_strength_2 3 rfl 2 rfl ?_
  refine v_iconst X dX10_strength_3 4 rfl ?_
  refine v_muV X hM (h_mo.1) (c_X10_ofTestimony_t2 l E b mo co k w hO hR hI gk gw p0 p1 p2) kvX10_ofTestimony kiX10_ofTestimony kl_X10_131 (q0 := 0) rfl rfl (As := [.int (zI k), .int (zI w), .int (zI 2)]) rfl rfl rfl dX10_strength_4 7 rfl (k' := 0) (n' := 0) rfl rfl (fsI (fun q q1 q2 => (Or.inl (fsH (by omega) (by omega))))) h_mo (fun rv H1 lo1 hM hF hpo => ?_)
  obtain ⟨rfl, hw_0⟩ := hpo
  have h_mo : PR E b (modelW E b (updC mo 0 (updZ (mo 0) 0 0))) H1 := hw_0
  show V p l e (rmL 3 0 0) s m args below meth cd Q 3 H1 lo1 0 0 7 [(0, .ref b), (1, .int (zI k)), (2, .int (zI w))] [.int (zI (co 9 (k * 8 + w)))]
  have hb_2 := hO.b9 (k * 8 + w)
  subst hQ; exact m_iret X hr hlk hM dX10_strength_7 rfl ⟨rfl, h_mo⟩
set_option maxHeartbeats 4000000 in
set_option maxRecDepth 20000 in
theorem c_X10_strength_0 (l : Launch) (E : Nat → Nat → Nat) (b : Nat) (mo : Nat → Int → Int) (co : Nat → Int → Int) (k : Int) (w : Int) (hO : OkC co) (hR : RelC co (mo 1)) (hI : TsI co) (gk : Rg k) (gw : Rg w) (nk : ¬ (0 ≤ k ∧ k < co 0 0)) : Mu l yX10_strength cX10_strength 3 (some .int) 3 0 0 E [(b, 5)] [.ref b, .int (zI k), .int (zI w)] (fun H => PR E b (modelW E b mo) H) (fun rv H => rv = some (.int (zI 0)) ∧ PR E b (modelW E b (updC mo 0 (updZ (mo 0) 0 1))) H) := by
  refine Mu.start (own := RX10) rfl (by decide +kernel) (Nat.le_of_ble_eq_true rfl) ?_
  intro p e s m below meth cd args Q hQ X hr hlk hnm hM hPr
  have h_mo := hPr
  have hb0 := hO.b0
  have hbw := hO.bw
  have hr0 := hR.s0
  have hr1 := hR.s1
  refine v_aload_n X dX10_strength_0 1 rfl 0 rfl ?_
  refine v_iload_n X dX10_strength_1 2 rfl 1 rfl ?_
  refine v_iload_n X dX10_strength_2 3 rfl 2 rfl ?_
  refine v_iconst X dX10_strength_3 4 rfl ?_
  refine v_muV X hM (h_mo.1) (c_X10_ofTestimony_t2_0 l E b mo co k w hO hR hI gk gw nk) kvX10_ofTestimony kiX10_ofTestimony kl_X10_131 (q0 := 0) rfl rfl (As := [.int (zI k), .int (zI w), .int (zI 2)]) rfl rfl rfl dX10_strength_4 7 rfl (k' := 0) (n' := 0) rfl rfl (fsI (fun q q1 q2 => (Or.inl (fsH (by omega) (by omega))))) h_mo (fun rv H1 lo1 hM hF hpo => ?_)
  obtain ⟨rfl, hw_0⟩ := hpo
  have h_mo : PR E b (modelW E b (updC mo 0 (updZ (mo 0) 0 1))) H1 := hw_0
  show V p l e (rmL 3 0 0) s m args below meth cd Q 3 H1 lo1 0 0 7 [(0, .ref b), (1, .int (zI k)), (2, .int (zI w))] [.int (zI 0)]
  subst hQ; exact m_iret X hr hlk hM dX10_strength_7 rfl ⟨rfl, h_mo⟩
set_option maxHeartbeats 4000000 in
set_option maxRecDepth 20000 in
theorem c_X10_strength_1 (l : Launch) (E : Nat → Nat → Nat) (b : Nat) (mo : Nat → Int → Int) (co : Nat → Int → Int) (k : Int) (w : Int) (hO : OkC co) (hR : RelC co (mo 1)) (hI : TsI co) (gk : Rg k) (gw : Rg w) (p0 : 0 ≤ k ∧ k < co 0 0) (nk : ¬ (0 ≤ w ∧ w < co 0 1)) : Mu l yX10_strength cX10_strength 3 (some .int) 3 0 0 E [(b, 5)] [.ref b, .int (zI k), .int (zI w)] (fun H => PR E b (modelW E b mo) H) (fun rv H => rv = some (.int (zI 0)) ∧ PR E b (modelW E b (updC mo 0 (updZ (mo 0) 0 1))) H) := by
  refine Mu.start (own := RX10) rfl (by decide +kernel) (Nat.le_of_ble_eq_true rfl) ?_
  intro p e s m below meth cd args Q hQ X hr hlk hnm hM hPr
  have h_mo := hPr
  have hb0 := hO.b0
  have hbw := hO.bw
  have hr0 := hR.s0
  have hr1 := hR.s1
  refine v_aload_n X dX10_strength_0 1 rfl 0 rfl ?_
  refine v_iload_n X dX10_strength_1 2 rfl 1 rfl ?_
  refine v_iload_n X dX10_strength_2 3 rfl 2 rfl ?_
  refine v_iconst X dX10_strength_3 4 rfl ?_
  refine v_muV X hM (h_mo.1) (c_X10_ofTestimony_t2_1 l E b mo co k w hO hR hI gk gw p0 nk) kvX10_ofTestimony kiX10_ofTestimony kl_X10_131 (q0 := 0) rfl rfl (As := [.int (zI k), .int (zI w), .int (zI 2)]) rfl rfl rfl dX10_strength_4 7 rfl (k' := 0) (n' := 0) rfl rfl (fsI (fun q q1 q2 => (Or.inl (fsH (by omega) (by omega))))) h_mo (fun rv H1 lo1 hM hF hpo => ?_)
  obtain ⟨rfl, hw_0⟩ := hpo
  have h_mo : PR E b (modelW E b (updC mo 0 (updZ (mo 0) 0 1))) H1 := hw_0
  show V p l e (rmL 3 0 0) s m args below meth cd Q 3 H1 lo1 0 0 7 [(0, .ref b), (1, .int (zI k)), (2, .int (zI w))] [.int (zI 0)]
  subst hQ; exact m_iret X hr hlk hM dX10_strength_7 rfl ⟨rfl, h_mo⟩
set_option maxHeartbeats 4000000 in
set_option maxRecDepth 20000 in
theorem c_X10_strength_2 (l : Launch) (E : Nat → Nat → Nat) (b : Nat) (mo : Nat → Int → Int) (co : Nat → Int → Int) (k : Int) (w : Int) (hO : OkC co) (hR : RelC co (mo 1)) (hI : TsI co) (gk : Rg k) (gw : Rg w) (p0 : 0 ≤ k ∧ k < co 0 0) (p1 : 0 ≤ w ∧ w < co 0 1) (nk : ¬ (0 < co 9 (k * 8 + w))) : Mu l yX10_strength cX10_strength 3 (some .int) 3 0 0 E [(b, 5)] [.ref b, .int (zI k), .int (zI w)] (fun H => PR E b (modelW E b mo) H) (fun rv H => rv = some (.int (zI 0)) ∧ PR E b (modelW E b (updC mo 0 (updZ (mo 0) 0 2))) H) := by
  refine Mu.start (own := RX10) rfl (by decide +kernel) (Nat.le_of_ble_eq_true rfl) ?_
  intro p e s m below meth cd args Q hQ X hr hlk hnm hM hPr
  have h_mo := hPr
  have hb0 := hO.b0
  have hbw := hO.bw
  have hr0 := hR.s0
  have hr1 := hR.s1
  refine v_aload_n X dX10_strength_0 1 rfl 0 rfl ?_
  refine v_iload_n X dX10_strength_1 2 rfl 1 rfl ?_
  refine v_iload_n X dX10_strength_2 3 rfl 2 rfl ?_
  refine v_iconst X dX10_strength_3 4 rfl ?_
  refine v_muV X hM (h_mo.1) (c_X10_ofTestimony_t2_2 l E b mo co k w hO hR hI gk gw p0 p1 nk) kvX10_ofTestimony kiX10_ofTestimony kl_X10_131 (q0 := 0) rfl rfl (As := [.int (zI k), .int (zI w), .int (zI 2)]) rfl rfl rfl dX10_strength_4 7 rfl (k' := 0) (n' := 0) rfl rfl (fsI (fun q q1 q2 => (Or.inl (fsH (by omega) (by omega))))) h_mo (fun rv H1 lo1 hM hF hpo => ?_)
  obtain ⟨rfl, hw_0⟩ := hpo
  have h_mo : PR E b (modelW E b (updC mo 0 (updZ (mo 0) 0 2))) H1 := hw_0
  show V p l e (rmL 3 0 0) s m args below meth cd Q 3 H1 lo1 0 0 7 [(0, .ref b), (1, .int (zI k)), (2, .int (zI w))] [.int (zI 0)]
  subst hQ; exact m_iret X hr hlk hM dX10_strength_7 rfl ⟨rfl, h_mo⟩
set_option maxHeartbeats 4000000 in
set_option maxRecDepth 20000 in
theorem c_X10_questionCount (l : Launch) (E : Nat → Nat → Nat) (b : Nat) (mo : Nat → Int → Int) (co : Nat → Int → Int) (k : Int) (w : Int) (hO : OkC co) (hR : RelC co (mo 1)) (hI : TsI co) (gk : Rg k) (gw : Rg w) (p0 : 0 ≤ k ∧ k < co 0 0) (p1 : 0 ≤ w ∧ w < co 0 1) (p2 : 0 < co 9 (k * 8 + w)) : Mu l yX10_questionCount cX10_questionCount 3 (some .int) 3 0 0 E [(b, 5)] [.ref b, .int (zI k), .int (zI w)] (fun H => PR E b (modelW E b mo) H) (fun rv H => rv = some (.int (zI (co 10 (k * 8 + w)))) ∧ PR E b (modelW E b (updC mo 0 (updZ (mo 0) 0 0))) H) := by
  refine Mu.start (own := RX10) rfl (by decide +kernel) (Nat.le_of_ble_eq_true rfl) ?_
  intro p e s m below meth cd args Q hQ X hr hlk hnm hM hPr
  have h_mo := hPr
  have hb0 := hO.b0
  have hbw := hO.bw
  have hr0 := hR.s0
  have hr1 := hR.s1
  refine v_aload_n X dX10_questionCount_0 1 rfl 0 rfl ?_
  refine v_iload_n X dX10_questionCount_1 2 rfl 1 rfl ?_
  refine v_iload_n X dX10_questionCount_2 3 rfl 2 rfl ?_
  refine v_iconst X dX10_questionCount_3 4 rfl ?_
  refine v_muV X hM (h_mo.1) (c_X10_ofTestimony_t3 l E b mo co k w hO hR hI gk gw p0 p1 p2) kvX10_ofTestimony kiX10_ofTestimony kl_X10_131 (q0 := 0) rfl rfl (As := [.int (zI k), .int (zI w), .int (zI 3)]) rfl rfl rfl dX10_questionCount_4 7 rfl (k' := 0) (n' := 0) rfl rfl (fsI (fun q q1 q2 => (Or.inl (fsH (by omega) (by omega))))) h_mo (fun rv H1 lo1 hM hF hpo => ?_)
  obtain ⟨rfl, hw_0⟩ := hpo
  have h_mo : PR E b (modelW E b (updC mo 0 (updZ (mo 0) 0 0))) H1 := hw_0
  show V p l e (rmL 3 0 0) s m args below meth cd Q 3 H1 lo1 0 0 7 [(0, .ref b), (1, .int (zI k)), (2, .int (zI w))] [.int (zI (co 10 (k * 8 + w)))]
  have hb_2 := hO.b10 (k * 8 + w)
  subst hQ; exact m_iret X hr hlk hM dX10_questionCount_7 rfl ⟨rfl, h_mo⟩
set_option maxHeartbeats 4000000 in
set_option maxRecDepth 20000 in
theorem c_X10_questionCount_0 (l : Launch) (E : Nat → Nat → Nat) (b : Nat) (mo : Nat → Int → Int) (co : Nat → Int → Int) (k : Int) (w : Int) (hO : OkC co) (hR : RelC co (mo 1)) (hI : TsI co) (gk : Rg k) (gw : Rg w) (nk : ¬ (0 ≤ k ∧ k < co 0 0)) : Mu l yX10_questionCount cX10_questionCount 3 (some .int) 3 0 0 E [(b, 5)] [.ref b, .int (zI k), .int (zI w)] (fun H => PR E b (modelW E b mo) H) (fun rv H => rv = some (.int (zI 0)) ∧ PR E b (modelW E b (updC mo 0 (updZ (mo 0) 0 1))) H) := by
  refine Mu.start (own := RX10) rfl (by decide +kernel) (Nat.le_of_ble_eq_true rfl) ?_
  intro p e s m below meth cd args Q hQ X hr hlk hnm hM hPr
  have h_mo := hPr
  have hb0 := hO.b0
  have hbw := hO.bw
  have hr0 := hR.s0
  have hr1 := hR.s1
  refine v_aload_n X dX10_questionCount_0 1 rfl 0 rfl ?_
  refine v_iload_n X dX10_questionCount_1 2 rfl 1 rfl ?_
  refine v_iload_n X dX10_questionCount_2 3 rfl 2 rfl ?_
  refine v_iconst X dX10_questionCount_3 4 rfl ?_
  refine v_muV X hM (h_mo.1) (c_X10_ofTestimony_t3_0 l E b mo co k w hO hR hI gk gw nk) kvX10_ofTestimony kiX10_ofTestimony kl_X10_131 (q0 := 0) rfl rfl (As := [.int (zI k), .int (zI w), .int (zI 3)]) rfl rfl rfl dX10_questionCount_4 7 rfl (k' := 0) (n' := 0) rfl rfl (fsI (fun q q1 q2 => (Or.inl (fsH (by omega) (by omega))))) h_mo (fun rv H1 lo1 hM hF hpo => ?_)
  obtain ⟨rfl, hw_0⟩ := hpo
  have h_mo : PR E b (modelW E b (updC mo 0 (updZ (mo 0) 0 1))) H1 := hw_0
  show V p l e (rmL 3 0 0) s m args below meth cd Q 3 H1 lo1 0 0 7 [(0, .ref b), (1, .int (zI k)), (2, .int (zI w))] [.int (zI 0)]
  subst hQ; exact m_iret X hr hlk hM dX10_questionCount_7 rfl ⟨rfl, h_mo⟩
set_option maxHeartbeats 4000000 in
set_option maxRecDepth 20000 in
theorem c_X10_questionCount_1 (l : Launch) (E : Nat → Nat → Nat) (b : Nat) (mo : Nat → Int → Int) (co : Nat → Int → Int) (k : Int) (w : Int) (hO : OkC co) (hR : RelC co (mo 1)) (hI : TsI co) (gk : Rg k) (gw : Rg w) (p0 : 0 ≤ k ∧ k < co 0 0) (nk : ¬ (0 ≤ w ∧ w < co 0 1)) : Mu l yX10_questionCount cX10_questionCount 3 (some .int) 3 0 0 E [(b, 5)] [.ref b, .int (zI k), .int (zI w)] (fun H => PR E b (modelW E b mo) H) (fun rv H => rv = some (.int (zI 0)) ∧ PR E b (modelW E b (updC mo 0 (updZ (mo 0) 0 1))) H) := by
  refine Mu.start (own := RX10) rfl (by decide +kernel) (Nat.le_of_ble_eq_true rfl) ?_
  intro p e s m below meth cd args Q hQ X hr hlk hnm hM hPr
  have h_mo := hPr
  have hb0 := hO.b0
  have hbw := hO.bw
  have hr0 := hR.s0
  have hr1 := hR.s1
  refine v_aload_n X dX10_questionCount_0 1 rfl 0 rfl ?_
  refine v_iload_n X dX10_questionCount_1 2 rfl 1 rfl ?_
  refine v_iload_n X dX10_questionCount_2 3 rfl 2 rfl ?_
  refine v_iconst X dX10_questionCount_3 4 rfl ?_
  refine v_muV X hM (h_mo.1) (c_X10_ofTestimony_t3_1 l E b mo co k w hO hR hI gk gw p0 nk) kvX10_ofTestimony kiX10_ofTestimony kl_X10_131 (q0 := 0) rfl rfl (As := [.int (zI k), .int (zI w), .int (zI 3)]) rfl rfl rfl dX10_questionCount_4 7 rfl (k' := 0) (n' := 0) rfl rfl (fsI (fun q q1 q2 => (Or.inl (fsH (by omega) (by omega))))) h_mo (fun rv H1 lo1 hM hF hpo => ?_)
  obtain ⟨rfl, hw_0⟩ := hpo
  have h_mo : PR E b (modelW E b (updC mo 0 (updZ (mo 0) 0 1))) H1 := hw_0
  show V p l e (rmL 3 0 0) s m args below meth cd Q 3 H1 lo1 0 0 7 [(0, .ref b), (1, .int (zI k)), (2, .int (zI w))] [.int (zI 0)]
  subst hQ; exact m_iret X hr hlk hM dX10_questionCount_7 rfl ⟨rfl, h_mo⟩
set_option maxHeartbeats 4000000 in
set_option maxRecDepth 20000 in
theorem c_X10_questionCount_2 (l : Launch) (E : Nat → Nat → Nat) (b : Nat) (mo : Nat → Int → Int) (co : Nat → Int → Int) (k : Int) (w : Int) (hO : OkC co) (hR : RelC co (mo 1)) (hI : TsI co) (gk : Rg k) (gw : Rg w) (p0 : 0 ≤ k ∧ k < co 0 0) (p1 : 0 ≤ w ∧ w < co 0 1) (nk : ¬ (0 < co 9 (k * 8 + w))) : Mu l yX10_questionCount cX10_questionCount 3 (some .int) 3 0 0 E [(b, 5)] [.ref b, .int (zI k), .int (zI w)] (fun H => PR E b (modelW E b mo) H) (fun rv H => rv = some (.int (zI 0)) ∧ PR E b (modelW E b (updC mo 0 (updZ (mo 0) 0 2))) H) := by
  refine Mu.start (own := RX10) rfl (by decide +kernel) (Nat.le_of_ble_eq_true rfl) ?_
  intro p e s m below meth cd args Q hQ X hr hlk hnm hM hPr
  have h_mo := hPr
  have hb0 := hO.b0
  have hbw := hO.bw
  have hr0 := hR.s0
  have hr1 := hR.s1
  refine v_aload_n X dX10_questionCount_0 1 rfl 0 rfl ?_
  refine v_iload_n X dX10_questionCount_1 2 rfl 1 rfl ?_
  refine v_iload_n X dX10_questionCount_2 3 rfl 2 rfl ?_
  refine v_iconst X dX10_questionCount_3 4 rfl ?_
  refine v_muV X hM (h_mo.1) (c_X10_ofTestimony_t3_2 l E b mo co k w hO hR hI gk gw p0 p1 nk) kvX10_ofTestimony kiX10_ofTestimony kl_X10_131 (q0 := 0) rfl rfl (As := [.int (zI k), .int (zI w), .int (zI 3)]) rfl rfl rfl dX10_questionCount_4 7 rfl (k' := 0) (n' := 0) rfl rfl (fsI (fun q q1 q2 => (Or.inl (fsH (by omega) (by omega))))) h_mo (fun rv H1 lo1 hM hF hpo => ?_)
  obtain ⟨rfl, hw_0⟩ := hpo
  have h_mo : PR E b (modelW E b (updC mo 0 (updZ (mo 0) 0 2))) H1 := hw_0
  show V p l e (rmL 3 0 0) s m args below meth cd Q 3 H1 lo1 0 0 7 [(0, .ref b), (1, .int (zI k)), (2, .int (zI w))] [.int (zI 0)]
  subst hQ; exact m_iret X hr hlk hM dX10_questionCount_7 rfl ⟨rfl, h_mo⟩
set_option maxHeartbeats 4000000 in
set_option maxRecDepth 20000 in
theorem c_X10_credibility (l : Launch) (E : Nat → Nat → Nat) (b : Nat) (mo : Nat → Int → Int) (co : Nat → Int → Int) (w : Int) (hO : OkC co) (hR : RelC co (mo 1)) (gw : Rg w) (p0 : 0 ≤ w ∧ w < co 0 1) : Mu l yX10_credibility cX10_credibility 2 (some .int) 2 0 0 E [(b, 5)] [.ref b, .int (zI w)] (fun H => PR E b (modelW E b mo) H) (fun rv H => rv = some (.int (zI (co 11 w))) ∧ PR E b (modelW E b (updC mo 0 (updZ (mo 0) 0 0))) H) := by
  refine Mu.start (own := RX10) rfl (by decide +kernel) (Nat.le_of_ble_eq_true rfl) ?_
  intro p e s m below meth cd args Q hQ X hr hlk hnm hM hPr
  have h_mo := hPr
  have hb0 := hO.b0
  have hbw := hO.bw
  have hr0 := hR.s0
  have hr1 := hR.s1
  refine v_aload_n X dX10_credibility_0 1 rfl 0 rfl ?_
  refine v_aload_n X dX10_credibility_1 2 rfl 0 rfl ?_
  refine v_iload_n X dX10_credibility_2 3 rfl 1 rfl ?_
  refine v_rdV X hM.C h_mo.1 (c_X10_isWitness l E b mo co w hO hR gw) kvX10_isWitness kiX10_isWitness kl_X10_95 rfl rfl (As := [.int (zI w)]) rfl rfl rfl dX10_credibility_3 6 rfl ?_
  show V p l e (rmL 2 0 0) s m args below meth cd Q 2 s.heap [] 0 0 6 [(0, .ref b), (1, .int (zI w))] [.int (zI (bz (0 ≤ w ∧ w < co 0 1))), .ref b]
  refine V_S (st' := [.int (zI 1), .ref b]) (by rw [bz_t (φ := 0 ≤ w ∧ w < co 0 1) (by first | omega | assumption)]) ?_
  refine v_muV X hM (h_mo.1) (c_X10_isFine_1 l E b mo) kvX10_isFine kiX10_isFine kl_X10_124 (q0 := 0) rfl rfl (As := [.int (zI 1)]) rfl rfl rfl dX10_credibility_6 9 rfl (k' := 0) (n' := 0) rfl rfl (fsI (fun q q1 q2 => (Or.inl (fsH (by omega) (by omega))))) h_mo (fun rv H1 lo1 hM hF hpo => ?_)
  obtain ⟨rfl, hw_0⟩ := hpo
  have h_mo : PR E b (modelW E b (updC mo 0 (updZ (mo 0) 0 0))) H1 := hw_0
  show V p l e (rmL 2 0 0) s m args below meth cd Q 2 H1 lo1 0 0 9 [(0, .ref b), (1, .int (zI w))] [.int (zI 1)]
  refine v_if_eq X (by omega) dX10_credibility_9 12 23 rfl (by decide) (fun c_2 => ?_) (fun c_2 => ?_)
  · skip
    exfalso; omega
  · skip
    refine v_aload_n X dX10_credibility_12 13 rfl 0 rfl ?_
    refine v_getf X hM.C h_mo.1 inX10 0 rfl rfl 1 (by decide) kf_X10_9 (fun _ h => h) rfl dX10_credibility_13 16 rfl ?_
    refine v_iconst X dX10_credibility_16 17 rfl ?_
    refine v_iload_n X dX10_credibility_17 18 rfl 1 rfl ?_
    refine v_iadd X dX10_credibility_18 19 rfl ?_
    refine v_iald X hM.C h_mo.1 1 rfl (by omega) (by omega) (by omega) dX10_credibility_19 20 rfl ?_
    refine v_goto X dX10_credibility_20 24 (by decide) ?_
    subst hQ; exact m_iret X hr hlk hM dX10_credibility_24 rfl ⟨(sv (by exact (hR.w (by omega) (by omega)).symm)), h_mo⟩
set_option maxHeartbeats 4000000 in
set_option maxRecDepth 20000 in
theorem c_X10_credibility_0 (l : Launch) (E : Nat → Nat → Nat) (b : Nat) (mo : Nat → Int → Int) (co : Nat → Int → Int) (w : Int) (hO : OkC co) (hR : RelC co (mo 1)) (gw : Rg w) (nk : ¬ (0 ≤ w ∧ w < co 0 1)) : Mu l yX10_credibility cX10_credibility 2 (some .int) 2 0 0 E [(b, 5)] [.ref b, .int (zI w)] (fun H => PR E b (modelW E b mo) H) (fun rv H => rv = some (.int (zI 0)) ∧ PR E b (modelW E b (updC mo 0 (updZ (mo 0) 0 1))) H) := by
  refine Mu.start (own := RX10) rfl (by decide +kernel) (Nat.le_of_ble_eq_true rfl) ?_
  intro p e s m below meth cd args Q hQ X hr hlk hnm hM hPr
  have h_mo := hPr
  have hb0 := hO.b0
  have hbw := hO.bw
  have hr0 := hR.s0
  have hr1 := hR.s1
  refine v_aload_n X dX10_credibility_0 1 rfl 0 rfl ?_
  refine v_aload_n X dX10_credibility_1 2 rfl 0 rfl ?_
  refine v_iload_n X dX10_credibility_2 3 rfl 1 rfl ?_
  refine v_rdV X hM.C h_mo.1 (c_X10_isWitness l E b mo co w hO hR gw) kvX10_isWitness kiX10_isWitness kl_X10_95 rfl rfl (As := [.int (zI w)]) rfl rfl rfl dX10_credibility_3 6 rfl ?_
  show V p l e (rmL 2 0 0) s m args below meth cd Q 2 s.heap [] 0 0 6 [(0, .ref b), (1, .int (zI w))] [.int (zI (bz (0 ≤ w ∧ w < co 0 1))), .ref b]
  refine V_S (st' := [.int (zI 0), .ref b]) (by rw [bz_f (φ := 0 ≤ w ∧ w < co 0 1) (by first | omega | assumption)]) ?_
  refine v_muV X hM (h_mo.1) (c_X10_isFine_0 l E b mo) kvX10_isFine kiX10_isFine kl_X10_124 (q0 := 0) rfl rfl (As := [.int (zI 0)]) rfl rfl rfl dX10_credibility_6 9 rfl (k' := 0) (n' := 0) rfl rfl (fsI (fun q q1 q2 => (Or.inl (fsH (by omega) (by omega))))) h_mo (fun rv H1 lo1 hM hF hpo => ?_)
  obtain ⟨rfl, hw_0⟩ := hpo
  have h_mo : PR E b (modelW E b (updC mo 0 (updZ (mo 0) 0 1))) H1 := hw_0
  show V p l e (rmL 2 0 0) s m args below meth cd Q 2 H1 lo1 0 0 9 [(0, .ref b), (1, .int (zI w))] [.int (zI 0)]
  refine v_if_eq X (by omega) dX10_credibility_9 12 23 rfl (by decide) (fun c_2 => ?_) (fun c_2 => ?_)
  · skip
    refine v_iconst X dX10_credibility_23 24 rfl ?_
    subst hQ; exact m_iret X hr hlk hM dX10_credibility_24 rfl ⟨rfl, h_mo⟩
  · skip
    exfalso; omega
set_option maxHeartbeats 4000000 in
set_option maxRecDepth 20000 in
theorem c_X10_casesOfWitness (l : Launch) (E : Nat → Nat → Nat) (b : Nat) (mo : Nat → Int → Int) (co : Nat → Int → Int) (w : Int) (hO : OkC co) (hR : RelC co (mo 1)) (hI : TsI co) (gw : Rg w) (p0 : 0 ≤ w ∧ w < co 0 1) : Mu l yX10_casesOfWitness cX10_casesOfWitness 2 (some .int) 3 0 0 E [(b, 5)] [.ref b, .int (zI w)] (fun H => PR E b (modelW E b mo) H) (fun rv H => rv = some (.int (zI (chC co w))) ∧ PR E b (modelW E b (updC mo 0 (updZ (mo 0) 0 0))) H) := by
  refine Mu.start (own := RX10) rfl (by decide +kernel) (Nat.le_of_ble_eq_true rfl) ?_
  intro p e s m below meth cd args Q hQ X hr hlk hnm hM hPr
  have h_mo := hPr
  have hb0 := hO.b0
  have hbw := hO.bw
  have hr0 := hR.s0
  have hr1 := hR.s1
  refine v_aload_n X dX10_casesOfWitness_0 1 rfl 0 rfl ?_
  refine v_aload_n X dX10_casesOfWitness_1 2 rfl 0 rfl ?_
  refine v_iload_n X dX10_casesOfWitness_2 3 rfl 1 rfl ?_
  refine v_rdV X hM.C h_mo.1 (c_X10_isWitness l E b mo co w hO hR gw) kvX10_isWitness kiX10_isWitness kl_X10_95 rfl rfl (As := [.int (zI w)]) rfl rfl rfl dX10_casesOfWitness_3 6 rfl ?_
  show V p l e (rmL 3 0 0) s m args below meth cd Q 2 s.heap [] 0 0 6 [(0, .ref b), (1, .int (zI w))] [.int (zI (bz (0 ≤ w ∧ w < co 0 1))), .ref b]
  refine V_S (st' := [.int (zI 1), .ref b]) (by rw [bz_t (φ := 0 ≤ w ∧ w < co 0 1) (by first | omega | assumption)]) ?_
  refine v_muV X hM (h_mo.1) (c_X10_isFine_1 l E b mo) kvX10_isFine kiX10_isFine kl_X10_124 (q0 := 0) rfl rfl (As := [.int (zI 1)]) rfl rfl rfl dX10_casesOfWitness_6 9 rfl (k' := 0) (n' := 0) rfl rfl (fsI (fun q q1 q2 => (Or.inl (fsH (by omega) (by omega))))) h_mo (fun rv H1 lo1 hM hF hpo => ?_)
  obtain ⟨rfl, hw_0⟩ := hpo
  have h_mo : PR E b (modelW E b (updC mo 0 (updZ (mo 0) 0 0))) H1 := hw_0
  show V p l e (rmL 3 0 0) s m args below meth cd Q 2 H1 lo1 0 0 9 [(0, .ref b), (1, .int (zI w))] [.int (zI 1)]
  refine v_if_eq X (by omega) dX10_casesOfWitness_9 12 20 rfl (by decide) (fun c_2 => ?_) (fun c_2 => ?_)
  · skip
    exfalso; omega
  · skip
    refine v_aload_n X dX10_casesOfWitness_12 13 rfl 0 rfl ?_
    refine v_iload_n X dX10_casesOfWitness_13 14 rfl 1 rfl ?_
    refine v_rdV X hM.C h_mo.1 (c_X10_casesBy l E b (updC mo 0 (updZ (mo 0) 0 0)) co w hO hR hI (by omega) (by omega)) kvX10_casesBy kiX10_casesBy kl_X10_134 rfl rfl (As := [.int (zI w)]) rfl rfl rfl dX10_casesOfWitness_14 17 rfl ?_
    show V p l e (rmL 3 0 0) s m args below meth cd Q 2 H1 lo1 0 0 17 [(0, .ref b), (1, .int (zI w))] [.int (zI (chC co w))]
    have hf_3 := chC_b co w
    refine v_goto X dX10_casesOfWitness_17 21 (by decide) ?_
    subst hQ; exact m_iret X hr hlk hM dX10_casesOfWitness_21 rfl ⟨rfl, h_mo⟩
set_option maxHeartbeats 4000000 in
set_option maxRecDepth 20000 in
theorem c_X10_casesOfWitness_0 (l : Launch) (E : Nat → Nat → Nat) (b : Nat) (mo : Nat → Int → Int) (co : Nat → Int → Int) (w : Int) (hO : OkC co) (hR : RelC co (mo 1)) (hI : TsI co) (gw : Rg w) (nk : ¬ (0 ≤ w ∧ w < co 0 1)) : Mu l yX10_casesOfWitness cX10_casesOfWitness 2 (some .int) 2 0 0 E [(b, 5)] [.ref b, .int (zI w)] (fun H => PR E b (modelW E b mo) H) (fun rv H => rv = some (.int (zI 0)) ∧ PR E b (modelW E b (updC mo 0 (updZ (mo 0) 0 1))) H) := by
  refine Mu.start (own := RX10) rfl (by decide +kernel) (Nat.le_of_ble_eq_true rfl) ?_
  intro p e s m below meth cd args Q hQ X hr hlk hnm hM hPr
  have h_mo := hPr
  have hb0 := hO.b0
  have hbw := hO.bw
  have hr0 := hR.s0
  have hr1 := hR.s1
  refine v_aload_n X dX10_casesOfWitness_0 1 rfl 0 rfl ?_
  refine v_aload_n X dX10_casesOfWitness_1 2 rfl 0 rfl ?_
  refine v_iload_n X dX10_casesOfWitness_2 3 rfl 1 rfl ?_
  refine v_rdV X hM.C h_mo.1 (c_X10_isWitness l E b mo co w hO hR gw) kvX10_isWitness kiX10_isWitness kl_X10_95 rfl rfl (As := [.int (zI w)]) rfl rfl rfl dX10_casesOfWitness_3 6 rfl ?_
  show V p l e (rmL 2 0 0) s m args below meth cd Q 2 s.heap [] 0 0 6 [(0, .ref b), (1, .int (zI w))] [.int (zI (bz (0 ≤ w ∧ w < co 0 1))), .ref b]
  refine V_S (st' := [.int (zI 0), .ref b]) (by rw [bz_f (φ := 0 ≤ w ∧ w < co 0 1) (by first | omega | assumption)]) ?_
  refine v_muV X hM (h_mo.1) (c_X10_isFine_0 l E b mo) kvX10_isFine kiX10_isFine kl_X10_124 (q0 := 0) rfl rfl (As := [.int (zI 0)]) rfl rfl rfl dX10_casesOfWitness_6 9 rfl (k' := 0) (n' := 0) rfl rfl (fsI (fun q q1 q2 => (Or.inl (fsH (by omega) (by omega))))) h_mo (fun rv H1 lo1 hM hF hpo => ?_)
  obtain ⟨rfl, hw_0⟩ := hpo
  have h_mo : PR E b (modelW E b (updC mo 0 (updZ (mo 0) 0 1))) H1 := hw_0
  show V p l e (rmL 2 0 0) s m args below meth cd Q 2 H1 lo1 0 0 9 [(0, .ref b), (1, .int (zI w))] [.int (zI 0)]
  refine v_if_eq X (by omega) dX10_casesOfWitness_9 12 20 rfl (by decide) (fun c_2 => ?_) (fun c_2 => ?_)
  · skip
    refine v_iconst X dX10_casesOfWitness_20 21 rfl ?_
    subst hQ; exact m_iret X hr hlk hM dX10_casesOfWitness_21 rfl ⟨rfl, h_mo⟩
  · skip
    exfalso; omega
set_option maxHeartbeats 4000000 in
set_option maxRecDepth 20000 in
theorem c_X10_prosecutionWeight (l : Launch) (E : Nat → Nat → Nat) (b : Nat) (mo : Nat → Int → Int) (co : Nat → Int → Int) (k : Int) (hO : OkC co) (hR : RelC co (mo 1)) (hI : TsI co) (gk : Rg k) (p0 : 0 ≤ k ∧ k < co 0 0) : Mu l yX10_prosecutionWeight cX10_prosecutionWeight 2 (some .int) 3 0 0 E [(b, 5)] [.ref b, .int (zI k)] (fun H => PR E b (modelW E b mo) H) (fun rv H => rv = some (.int (zI (wsC co k 1))) ∧ PR E b (modelW E b (updC mo 0 (updZ (mo 0) 0 0))) H) := by
  refine Mu.start (own := RX10) rfl (by decide +kernel) (Nat.le_of_ble_eq_true rfl) ?_
  intro p e s m below meth cd args Q hQ X hr hlk hnm hM hPr
  have h_mo := hPr
  have hb0 := hO.b0
  have hbw := hO.bw
  have hr0 := hR.s0
  have hr1 := hR.s1
  refine v_aload_n X dX10_prosecutionWeight_0 1 rfl 0 rfl ?_
  refine v_aload_n X dX10_prosecutionWeight_1 2 rfl 0 rfl ?_
  refine v_iload_n X dX10_prosecutionWeight_2 3 rfl 1 rfl ?_
  refine v_rdV X hM.C h_mo.1 (c_X10_isCase l E b mo co k hO hR gk) kvX10_isCase kiX10_isCase kl_X10_92 rfl rfl (As := [.int (zI k)]) rfl rfl rfl dX10_prosecutionWeight_3 6 rfl ?_
  show V p l e (rmL 3 0 0) s m args below meth cd Q 2 s.heap [] 0 0 6 [(0, .ref b), (1, .int (zI k))] [.int (zI (bz (0 ≤ k ∧ k < co 0 0))), .ref b]
  refine V_S (st' := [.int (zI 1), .ref b]) (by rw [bz_t (φ := 0 ≤ k ∧ k < co 0 0) (by first | omega | assumption)]) ?_
  refine v_muV X hM (h_mo.1) (c_X10_isFine_1 l E b mo) kvX10_isFine kiX10_isFine kl_X10_124 (q0 := 0) rfl rfl (As := [.int (zI 1)]) rfl rfl rfl dX10_prosecutionWeight_6 9 rfl (k' := 0) (n' := 0) rfl rfl (fsI (fun q q1 q2 => (Or.inl (fsH (by omega) (by omega))))) h_mo (fun rv H1 lo1 hM hF hpo => ?_)
  obtain ⟨rfl, hw_0⟩ := hpo
  have h_mo : PR E b (modelW E b (updC mo 0 (updZ (mo 0) 0 0))) H1 := hw_0
  show V p l e (rmL 3 0 0) s m args below meth cd Q 2 H1 lo1 0 0 9 [(0, .ref b), (1, .int (zI k))] [.int (zI 1)]
  refine v_if_eq X (by omega) dX10_prosecutionWeight_9 12 21 rfl (by decide) (fun c_2 => ?_) (fun c_2 => ?_)
  · skip
    exfalso; omega
  · skip
    refine v_aload_n X dX10_prosecutionWeight_12 13 rfl 0 rfl ?_
    refine v_iload_n X dX10_prosecutionWeight_13 14 rfl 1 rfl ?_
    refine v_iconst X dX10_prosecutionWeight_14 15 rfl ?_
    have hb_3 := hO.b0
    refine v_rdV X hM.C h_mo.1 (c_X10_weightOf_1 l E b (updC mo 0 (updZ (mo 0) 0 0)) co k hO hR hI (by omega) (by omega)) kvX10_weightOf kiX10_weightOf kl_X10_58 rfl rfl (As := [.int (zI k), .int (zI 1)]) rfl rfl rfl dX10_prosecutionWeight_15 18 rfl ?_
    show V p l e (rmL 3 0 0) s m args below meth cd Q 2 H1 lo1 0 0 18 [(0, .ref b), (1, .int (zI k))] [.int (zI (wsC co k 1))]
    have hf_4 := wsC_b hO k 1
    refine v_goto X dX10_prosecutionWeight_18 22 (by decide) ?_
    subst hQ; exact m_iret X hr hlk hM dX10_prosecutionWeight_22 rfl ⟨rfl, h_mo⟩
set_option maxHeartbeats 4000000 in
set_option maxRecDepth 20000 in
theorem c_X10_prosecutionWeight_0 (l : Launch) (E : Nat → Nat → Nat) (b : Nat) (mo : Nat → Int → Int) (co : Nat → Int → Int) (k : Int) (hO : OkC co) (hR : RelC co (mo 1)) (hI : TsI co) (gk : Rg k) (nk : ¬ (0 ≤ k ∧ k < co 0 0)) : Mu l yX10_prosecutionWeight cX10_prosecutionWeight 2 (some .int) 2 0 0 E [(b, 5)] [.ref b, .int (zI k)] (fun H => PR E b (modelW E b mo) H) (fun rv H => rv = some (.int (zI 0)) ∧ PR E b (modelW E b (updC mo 0 (updZ (mo 0) 0 1))) H) := by
  refine Mu.start (own := RX10) rfl (by decide +kernel) (Nat.le_of_ble_eq_true rfl) ?_
  intro p e s m below meth cd args Q hQ X hr hlk hnm hM hPr
  have h_mo := hPr
  have hb0 := hO.b0
  have hbw := hO.bw
  have hr0 := hR.s0
  have hr1 := hR.s1
  refine v_aload_n X dX10_prosecutionWeight_0 1 rfl 0 rfl ?_
  refine v_aload_n X dX10_prosecutionWeight_1 2 rfl 0 rfl ?_
  refine v_iload_n X dX10_prosecutionWeight_2 3 rfl 1 rfl ?_
  refine v_rdV X hM.C h_mo.1 (c_X10_isCase l E b mo co k hO hR gk) kvX10_isCase kiX10_isCase kl_X10_92 rfl rfl (As := [.int (zI k)]) rfl rfl rfl dX10_prosecutionWeight_3 6 rfl ?_
  show V p l e (rmL 2 0 0) s m args below meth cd Q 2 s.heap [] 0 0 6 [(0, .ref b), (1, .int (zI k))] [.int (zI (bz (0 ≤ k ∧ k < co 0 0))), .ref b]
  refine V_S (st' := [.int (zI 0), .ref b]) (by rw [bz_f (φ := 0 ≤ k ∧ k < co 0 0) (by first | omega | assumption)]) ?_
  refine v_muV X hM (h_mo.1) (c_X10_isFine_0 l E b mo) kvX10_isFine kiX10_isFine kl_X10_124 (q0 := 0) rfl rfl (As := [.int (zI 0)]) rfl rfl rfl dX10_prosecutionWeight_6 9 rfl (k' := 0) (n' := 0) rfl rfl (fsI (fun q q1 q2 => (Or.inl (fsH (by omega) (by omega))))) h_mo (fun rv H1 lo1 hM hF hpo => ?_)
  obtain ⟨rfl, hw_0⟩ := hpo
  have h_mo : PR E b (modelW E b (updC mo 0 (updZ (mo 0) 0 1))) H1 := hw_0
  show V p l e (rmL 2 0 0) s m args below meth cd Q 2 H1 lo1 0 0 9 [(0, .ref b), (1, .int (zI k))] [.int (zI 0)]
  refine v_if_eq X (by omega) dX10_prosecutionWeight_9 12 21 rfl (by decide) (fun c_2 => ?_) (fun c_2 => ?_)
  · skip
    refine v_iconst X dX10_prosecutionWeight_21 22 rfl ?_
    subst hQ; exact m_iret X hr hlk hM dX10_prosecutionWeight_22 rfl ⟨rfl, h_mo⟩
  · skip
    exfalso; omega
set_option maxHeartbeats 4000000 in
set_option maxRecDepth 20000 in
theorem c_X10_defenceWeight (l : Launch) (E : Nat → Nat → Nat) (b : Nat) (mo : Nat → Int → Int) (co : Nat → Int → Int) (k : Int) (hO : OkC co) (hR : RelC co (mo 1)) (hI : TsI co) (gk : Rg k) (p0 : 0 ≤ k ∧ k < co 0 0) : Mu l yX10_defenceWeight cX10_defenceWeight 2 (some .int) 3 0 0 E [(b, 5)] [.ref b, .int (zI k)] (fun H => PR E b (modelW E b mo) H) (fun rv H => rv = some (.int (zI (wsC co k (-1)))) ∧ PR E b (modelW E b (updC mo 0 (updZ (mo 0) 0 0))) H) := by
  refine Mu.start (own := RX10) rfl (by decide +kernel) (Nat.le_of_ble_eq_true rfl) ?_
  intro p e s m below meth cd args Q hQ X hr hlk hnm hM hPr
  have h_mo := hPr
  have hb0 := hO.b0
  have hbw := hO.bw
  have hr0 := hR.s0
  have hr1 := hR.s1
  refine v_aload_n X dX10_defenceWeight_0 1 rfl 0 rfl ?_
  refine v_aload_n X dX10_defenceWeight_1 2 rfl 0 rfl ?_
  refine v_iload_n X dX10_defenceWeight_2 3 rfl 1 rfl ?_
  refine v_rdV X hM.C h_mo.1 (c_X10_isCase l E b mo co k hO hR gk) kvX10_isCase kiX10_isCase kl_X10_92 rfl rfl (As := [.int (zI k)]) rfl rfl rfl dX10_defenceWeight_3 6 rfl ?_
  show V p l e (rmL 3 0 0) s m args below meth cd Q 2 s.heap [] 0 0 6 [(0, .ref b), (1, .int (zI k))] [.int (zI (bz (0 ≤ k ∧ k < co 0 0))), .ref b]
  refine V_S (st' := [.int (zI 1), .ref b]) (by rw [bz_t (φ := 0 ≤ k ∧ k < co 0 0) (by first | omega | assumption)]) ?_
  refine v_muV X hM (h_mo.1) (c_X10_isFine_1 l E b mo) kvX10_isFine kiX10_isFine kl_X10_124 (q0 := 0) rfl rfl (As := [.int (zI 1)]) rfl rfl rfl dX10_defenceWeight_6 9 rfl (k' := 0) (n' := 0) rfl rfl (fsI (fun q q1 q2 => (Or.inl (fsH (by omega) (by omega))))) h_mo (fun rv H1 lo1 hM hF hpo => ?_)
  obtain ⟨rfl, hw_0⟩ := hpo
  have h_mo : PR E b (modelW E b (updC mo 0 (updZ (mo 0) 0 0))) H1 := hw_0
  show V p l e (rmL 3 0 0) s m args below meth cd Q 2 H1 lo1 0 0 9 [(0, .ref b), (1, .int (zI k))] [.int (zI 1)]
  refine v_if_eq X (by omega) dX10_defenceWeight_9 12 21 rfl (by decide) (fun c_2 => ?_) (fun c_2 => ?_)
  · skip
    exfalso; omega
  · skip
    refine v_aload_n X dX10_defenceWeight_12 13 rfl 0 rfl ?_
    refine v_iload_n X dX10_defenceWeight_13 14 rfl 1 rfl ?_
    refine v_iconst X dX10_defenceWeight_14 15 rfl ?_
    have hb_3 := hO.b0
    refine v_rdV X hM.C h_mo.1 (c_X10_weightOf_0 l E b (updC mo 0 (updZ (mo 0) 0 0)) co k hO hR hI (by omega) (by omega)) kvX10_weightOf kiX10_weightOf kl_X10_58 rfl rfl (As := [.int (zI k), .int (zI 0)]) rfl rfl rfl dX10_defenceWeight_15 18 rfl ?_
    show V p l e (rmL 3 0 0) s m args below meth cd Q 2 H1 lo1 0 0 18 [(0, .ref b), (1, .int (zI k))] [.int (zI (wsC co k (-1)))]
    have hf_4 := wsC_b hO k (-1)
    refine v_goto X dX10_defenceWeight_18 22 (by decide) ?_
    subst hQ; exact m_iret X hr hlk hM dX10_defenceWeight_22 rfl ⟨rfl, h_mo⟩
set_option maxHeartbeats 4000000 in
set_option maxRecDepth 20000 in
theorem c_X10_defenceWeight_0 (l : Launch) (E : Nat → Nat → Nat) (b : Nat) (mo : Nat → Int → Int) (co : Nat → Int → Int) (k : Int) (hO : OkC co) (hR : RelC co (mo 1)) (hI : TsI co) (gk : Rg k) (nk : ¬ (0 ≤ k ∧ k < co 0 0)) : Mu l yX10_defenceWeight cX10_defenceWeight 2 (some .int) 2 0 0 E [(b, 5)] [.ref b, .int (zI k)] (fun H => PR E b (modelW E b mo) H) (fun rv H => rv = some (.int (zI 0)) ∧ PR E b (modelW E b (updC mo 0 (updZ (mo 0) 0 1))) H) := by
  refine Mu.start (own := RX10) rfl (by decide +kernel) (Nat.le_of_ble_eq_true rfl) ?_
  intro p e s m below meth cd args Q hQ X hr hlk hnm hM hPr
  have h_mo := hPr
  have hb0 := hO.b0
  have hbw := hO.bw
  have hr0 := hR.s0
  have hr1 := hR.s1
  refine v_aload_n X dX10_defenceWeight_0 1 rfl 0 rfl ?_
  refine v_aload_n X dX10_defenceWeight_1 2 rfl 0 rfl ?_
  refine v_iload_n X dX10_defenceWeight_2 3 rfl 1 rfl ?_
  refine v_rdV X hM.C h_mo.1 (c_X10_isCase l E b mo co k hO hR gk) kvX10_isCase kiX10_isCase kl_X10_92 rfl rfl (As := [.int (zI k)]) rfl rfl rfl dX10_defenceWeight_3 6 rfl ?_
  show V p l e (rmL 2 0 0) s m args below meth cd Q 2 s.heap [] 0 0 6 [(0, .ref b), (1, .int (zI k))] [.int (zI (bz (0 ≤ k ∧ k < co 0 0))), .ref b]
  refine V_S (st' := [.int (zI 0), .ref b]) (by rw [bz_f (φ := 0 ≤ k ∧ k < co 0 0) (by first | omega | assumption)]) ?_
  refine v_muV X hM (h_mo.1) (c_X10_isFine_0 l E b mo) kvX10_isFine kiX10_isFine kl_X10_124 (q0 := 0) rfl rfl (As := [.int (zI 0)]) rfl rfl rfl dX10_defenceWeight_6 9 rfl (k' := 0) (n' := 0) rfl rfl (fsI (fun q q1 q2 => (Or.inl (fsH (by omega) (by omega))))) h_mo (fun rv H1 lo1 hM hF hpo => ?_)
  obtain ⟨rfl, hw_0⟩ := hpo
  have h_mo : PR E b (modelW E b (updC mo 0 (updZ (mo 0) 0 1))) H1 := hw_0
  show V p l e (rmL 2 0 0) s m args below meth cd Q 2 H1 lo1 0 0 9 [(0, .ref b), (1, .int (zI k))] [.int (zI 0)]
  refine v_if_eq X (by omega) dX10_defenceWeight_9 12 21 rfl (by decide) (fun c_2 => ?_) (fun c_2 => ?_)
  · skip
    refine v_iconst X dX10_defenceWeight_21 22 rfl ?_
    subst hQ; exact m_iret X hr hlk hM dX10_defenceWeight_22 rfl ⟨rfl, h_mo⟩
  · skip
    exfalso; omega
set_option maxHeartbeats 4000000 in
set_option maxRecDepth 20000 in
theorem c_X10_margin (l : Launch) (E : Nat → Nat → Nat) (b : Nat) (mo : Nat → Int → Int) (co : Nat → Int → Int) (k : Int) (hO : OkC co) (hR : RelC co (mo 1)) (hI : TsI co) (gk : Rg k) (p0 : 0 ≤ k ∧ k < co 0 0) : Mu l yX10_margin cX10_margin 2 (some .int) 4 0 0 E [(b, 5)] [.ref b, .int (zI k)] (fun H => PR E b (modelW E b mo) H) (fun rv H => rv = some (.int (zI (mgC co k))) ∧ PR E b (modelW E b (updC mo 0 (updZ (mo 0) 0 0))) H) := by
  refine Mu.start (own := RX10) rfl (by decide +kernel) (Nat.le_of_ble_eq_true rfl) ?_
  intro p e s m below meth cd args Q hQ X hr hlk hnm hM hPr
  have h_mo := hPr
  have hb0 := hO.b0
  have hbw := hO.bw
  have hr0 := hR.s0
  have hr1 := hR.s1
  refine v_aload_n X dX10_margin_0 1 rfl 0 rfl ?_
  refine v_aload_n X dX10_margin_1 2 rfl 0 rfl ?_
  refine v_iload_n X dX10_margin_2 3 rfl 1 rfl ?_
  refine v_rdV X hM.C h_mo.1 (c_X10_isCase l E b mo co k hO hR gk) kvX10_isCase kiX10_isCase kl_X10_92 rfl rfl (As := [.int (zI k)]) rfl rfl rfl dX10_margin_3 6 rfl ?_
  show V p l e (rmL 4 0 0) s m args below meth cd Q 2 s.heap [] 0 0 6 [(0, .ref b), (1, .int (zI k))] [.int (zI (bz (0 ≤ k ∧ k < co 0 0))), .ref b]
  refine V_S (st' := [.int (zI 1), .ref b]) (by rw [bz_t (φ := 0 ≤ k ∧ k < co 0 0) (by first | omega | assumption)]) ?_
  refine v_muV X hM (h_mo.1) (c_X10_isFine_1 l E b mo) kvX10_isFine kiX10_isFine kl_X10_124 (q0 := 0) rfl rfl (As := [.int (zI 1)]) rfl rfl rfl dX10_margin_6 9 rfl (k' := 0) (n' := 0) rfl rfl (fsI (fun q q1 q2 => (Or.inl (fsH (by omega) (by omega))))) h_mo (fun rv H1 lo1 hM hF hpo => ?_)
  obtain ⟨rfl, hw_0⟩ := hpo
  have h_mo : PR E b (modelW E b (updC mo 0 (updZ (mo 0) 0 0))) H1 := hw_0
  show V p l e (rmL 4 0 0) s m args below meth cd Q 2 H1 lo1 0 0 9 [(0, .ref b), (1, .int (zI k))] [.int (zI 1)]
  refine v_if_eq X (by omega) dX10_margin_9 12 20 rfl (by decide) (fun c_2 => ?_) (fun c_2 => ?_)
  · skip
    exfalso; omega
  · skip
    refine v_aload_n X dX10_margin_12 13 rfl 0 rfl ?_
    refine v_iload_n X dX10_margin_13 14 rfl 1 rfl ?_
    have hb_3 := hO.b0
    refine v_rdV X hM.C h_mo.1 (c_X10_marginOf l E b (updC mo 0 (updZ (mo 0) 0 0)) co k hO hR hI (by omega) (by omega)) kvX10_marginOf kiX10_marginOf kl_X10_109 rfl rfl (As := [.int (zI k)]) rfl rfl rfl dX10_margin_14 17 rfl ?_
    show V p l e (rmL 4 0 0) s m args below meth cd Q 2 H1 lo1 0 0 17 [(0, .ref b), (1, .int (zI k))] [.int (zI (mgC co k))]
    have hf_4 := mgC_b hO k
    refine v_goto X dX10_margin_17 21 (by decide) ?_
    subst hQ; exact m_iret X hr hlk hM dX10_margin_21 rfl ⟨rfl, h_mo⟩
set_option maxHeartbeats 4000000 in
set_option maxRecDepth 20000 in
theorem c_X10_margin_0 (l : Launch) (E : Nat → Nat → Nat) (b : Nat) (mo : Nat → Int → Int) (co : Nat → Int → Int) (k : Int) (hO : OkC co) (hR : RelC co (mo 1)) (hI : TsI co) (gk : Rg k) (nk : ¬ (0 ≤ k ∧ k < co 0 0)) : Mu l yX10_margin cX10_margin 2 (some .int) 2 0 0 E [(b, 5)] [.ref b, .int (zI k)] (fun H => PR E b (modelW E b mo) H) (fun rv H => rv = some (.int (zI 0)) ∧ PR E b (modelW E b (updC mo 0 (updZ (mo 0) 0 1))) H) := by
  refine Mu.start (own := RX10) rfl (by decide +kernel) (Nat.le_of_ble_eq_true rfl) ?_
  intro p e s m below meth cd args Q hQ X hr hlk hnm hM hPr
  have h_mo := hPr
  have hb0 := hO.b0
  have hbw := hO.bw
  have hr0 := hR.s0
  have hr1 := hR.s1
  refine v_aload_n X dX10_margin_0 1 rfl 0 rfl ?_
  refine v_aload_n X dX10_margin_1 2 rfl 0 rfl ?_
  refine v_iload_n X dX10_margin_2 3 rfl 1 rfl ?_
  refine v_rdV X hM.C h_mo.1 (c_X10_isCase l E b mo co k hO hR gk) kvX10_isCase kiX10_isCase kl_X10_92 rfl rfl (As := [.int (zI k)]) rfl rfl rfl dX10_margin_3 6 rfl ?_
  show V p l e (rmL 2 0 0) s m args below meth cd Q 2 s.heap [] 0 0 6 [(0, .ref b), (1, .int (zI k))] [.int (zI (bz (0 ≤ k ∧ k < co 0 0))), .ref b]
  refine V_S (st' := [.int (zI 0), .ref b]) (by rw [bz_f (φ := 0 ≤ k ∧ k < co 0 0) (by first | omega | assumption)]) ?_
  refine v_muV X hM (h_mo.1) (c_X10_isFine_0 l E b mo) kvX10_isFine kiX10_isFine kl_X10_124 (q0 := 0) rfl rfl (As := [.int (zI 0)]) rfl rfl rfl dX10_margin_6 9 rfl (k' := 0) (n' := 0) rfl rfl (fsI (fun q q1 q2 => (Or.inl (fsH (by omega) (by omega))))) h_mo (fun rv H1 lo1 hM hF hpo => ?_)
  obtain ⟨rfl, hw_0⟩ := hpo
  have h_mo : PR E b (modelW E b (updC mo 0 (updZ (mo 0) 0 1))) H1 := hw_0
  show V p l e (rmL 2 0 0) s m args below meth cd Q 2 H1 lo1 0 0 9 [(0, .ref b), (1, .int (zI k))] [.int (zI 0)]
  refine v_if_eq X (by omega) dX10_margin_9 12 20 rfl (by decide) (fun c_2 => ?_) (fun c_2 => ?_)
  · skip
    refine v_iconst X dX10_margin_20 21 rfl ?_
    subst hQ; exact m_iret X hr hlk hM dX10_margin_21 rfl ⟨rfl, h_mo⟩
  · skip
    exfalso; omega
set_option maxHeartbeats 4000000 in
set_option maxRecDepth 20000 in
theorem c_X10_marginByCredibility (l : Launch) (E : Nat → Nat → Nat) (b : Nat) (mo : Nat → Int → Int) (co : Nat → Int → Int) (k : Int) (hO : OkC co) (hR : RelC co (mo 1)) (hI : TsI co) (gk : Rg k) (p0 : 0 ≤ k ∧ k < co 0 0) : Mu l yX10_marginByCredibility cX10_marginByCredibility 2 (some .int) 5 0 0 E [(b, 5)] [.ref b, .int (zI k)] (fun H => PR E b (modelW E b mo) H) (fun rv H => rv = some (.int (zI (mgC co k))) ∧ PR E b (modelW E b (updC mo 0 (updZ (mo 0) 0 0))) H) := by
  refine Mu.start (own := RX10) rfl (by decide +kernel) (Nat.le_of_ble_eq_true rfl) ?_
  intro p e s m below meth cd args Q hQ X hr hlk hnm hM hPr
  have h_mo := hPr
  have hb0 := hO.b0
  have hbw := hO.bw
  have hr0 := hR.s0
  have hr1 := hR.s1
  refine v_aload_n X dX10_marginByCredibility_0 1 rfl 0 rfl ?_
  refine v_iload_n X dX10_marginByCredibility_1 2 rfl 1 rfl ?_
  refine v_muV X hM (h_mo.1) (c_X10_margin l E b mo co k hO hR hI gk p0) kvX10_margin kiX10_margin kl_X10_144 (q0 := 0) rfl rfl (As := [.int (zI k)]) rfl rfl rfl dX10_marginByCredibility_2 5 rfl (k' := 0) (n' := 0) rfl rfl (fsI (fun q q1 q2 => (Or.inl (fsH (by omega) (by omega))))) h_mo (fun rv H1 lo1 hM hF hpo => ?_)
  obtain ⟨rfl, hw_0⟩ := hpo
  have h_mo : PR E b (modelW E b (updC mo 0 (updZ (mo 0) 0 0))) H1 := hw_0
  show V p l e (rmL 5 0 0) s m args below meth cd Q 2 H1 lo1 0 0 5 [(0, .ref b), (1, .int (zI k))] [.int (zI (mgC co k))]
  subst hQ; exact m_iret X hr hlk hM dX10_marginByCredibility_5 rfl ⟨rfl, h_mo⟩
set_option maxHeartbeats 4000000 in
set_option maxRecDepth 20000 in
theorem c_X10_marginByCredibility_0 (l : Launch) (E : Nat → Nat → Nat) (b : Nat) (mo : Nat → Int → Int) (co : Nat → Int → Int) (k : Int) (hO : OkC co) (hR : RelC co (mo 1)) (hI : TsI co) (gk : Rg k) (nk : ¬ (0 ≤ k ∧ k < co 0 0)) : Mu l yX10_marginByCredibility cX10_marginByCredibility 2 (some .int) 3 0 0 E [(b, 5)] [.ref b, .int (zI k)] (fun H => PR E b (modelW E b mo) H) (fun rv H => rv = some (.int (zI 0)) ∧ PR E b (modelW E b (updC mo 0 (updZ (mo 0) 0 1))) H) := by
  refine Mu.start (own := RX10) rfl (by decide +kernel) (Nat.le_of_ble_eq_true rfl) ?_
  intro p e s m below meth cd args Q hQ X hr hlk hnm hM hPr
  have h_mo := hPr
  have hb0 := hO.b0
  have hbw := hO.bw
  have hr0 := hR.s0
  have hr1 := hR.s1
  refine v_aload_n X dX10_marginByCredibility_0 1 rfl 0 rfl ?_
  refine v_iload_n X dX10_marginByCredibility_1 2 rfl 1 rfl ?_
  refine v_muV X hM (h_mo.1) (c_X10_margin_0 l E b mo co k hO hR hI gk nk) kvX10_margin kiX10_margin kl_X10_144 (q0 := 0) rfl rfl (As := [.int (zI k)]) rfl rfl rfl dX10_marginByCredibility_2 5 rfl (k' := 0) (n' := 0) rfl rfl (fsI (fun q q1 q2 => (Or.inl (fsH (by omega) (by omega))))) h_mo (fun rv H1 lo1 hM hF hpo => ?_)
  obtain ⟨rfl, hw_0⟩ := hpo
  have h_mo : PR E b (modelW E b (updC mo 0 (updZ (mo 0) 0 1))) H1 := hw_0
  show V p l e (rmL 3 0 0) s m args below meth cd Q 2 H1 lo1 0 0 5 [(0, .ref b), (1, .int (zI k))] [.int (zI 0)]
  subst hQ; exact m_iret X hr hlk hM dX10_marginByCredibility_5 rfl ⟨rfl, h_mo⟩
set_option maxHeartbeats 4000000 in
set_option maxRecDepth 20000 in
theorem c_X10_sentence (l : Launch) (E : Nat → Nat → Nat) (b : Nat) (mo : Nat → Int → Int) (co : Nat → Int → Int) (d : Int) (hO : OkC co) (hR : RelC co (mo 1)) (hS : SnI co) (gd : Rg d) (p0 : 0 ≤ d ∧ d < 6) : Mu l yX10_sentence cX10_sentence 2 (some .int) 3 0 0 E [(b, 5)] [.ref b, .int (zI d)] (fun H => PR E b (modelW E b mo) H) (fun rv H => rv = some (.int (zI (co 12 d))) ∧ PR E b (modelW E b (updC mo 0 (updZ (mo 0) 0 0))) H) := by
  refine Mu.start (own := RX10) rfl (by decide +kernel) (Nat.le_of_ble_eq_true rfl) ?_
  intro p e s m below meth cd args Q hQ X hr hlk hnm hM hPr
  have h_mo := hPr
  have hb0 := hO.b0
  have hbw := hO.bw
  have hr0 := hR.s0
  have hr1 := hR.s1
  refine v_aload_n X dX10_sentence_0 1 rfl 0 rfl ?_
  refine v_iload_n X dX10_sentence_1 2 rfl 1 rfl ?_
  refine v_rdS X hM.C (ws0 E s.heap) (c_X10_isDefendant l E d gd) kvX10_isDefendant ksX10_isDefendant kl_X10_65 (As := [.int (zI d)]) rfl rfl rfl dX10_sentence_2 5 rfl ?_
  show V p l e (rmL 3 0 0) s m args below meth cd Q 2 s.heap [] 0 0 5 [(0, .ref b), (1, .int (zI d))] [.int (zI (bz (0 ≤ d ∧ d < 6))), .ref b]
  refine V_S (st' := [.int (zI 1), .ref b]) (by rw [bz_t (φ := 0 ≤ d ∧ d < 6) (by first | omega | assumption)]) ?_
  refine v_muV X hM (h_mo.1) (c_X10_isFine_1 l E b mo) kvX10_isFine kiX10_isFine kl_X10_124 (q0 := 0) rfl rfl (As := [.int (zI 1)]) rfl rfl rfl dX10_sentence_5 8 rfl (k' := 0) (n' := 0) rfl rfl (fsI (fun q q1 q2 => (Or.inl (fsH (by omega) (by omega))))) h_mo (fun rv H1 lo1 hM hF hpo => ?_)
  obtain ⟨rfl, hw_0⟩ := hpo
  have h_mo : PR E b (modelW E b (updC mo 0 (updZ (mo 0) 0 0))) H1 := hw_0
  show V p l e (rmL 3 0 0) s m args below meth cd Q 2 H1 lo1 0 0 8 [(0, .ref b), (1, .int (zI d))] [.int (zI 1)]
  refine v_if_eq X (by omega) dX10_sentence_8 11 19 rfl (by decide) (fun c_2 => ?_) (fun c_2 => ?_)
  · skip
    exfalso; omega
  · skip
    refine v_aload_n X dX10_sentence_11 12 rfl 0 rfl ?_
    refine v_iload_n X dX10_sentence_12 13 rfl 1 rfl ?_
    refine v_rdV X hM.C h_mo.1 (c_X10_sentenceOf l E b (updC mo 0 (updZ (mo 0) 0 0)) co d hO hR hS (by omega) (by omega)) kvX10_sentenceOf kiX10_sentenceOf kl_X10_147 rfl rfl (As := [.int (zI d)]) rfl rfl rfl dX10_sentence_13 16 rfl ?_
    show V p l e (rmL 3 0 0) s m args below meth cd Q 2 H1 lo1 0 0 16 [(0, .ref b), (1, .int (zI d))] [.int (zI (co 12 d))]
    have hb_3 := hO.b12 d
    refine v_goto X dX10_sentence_16 20 (by decide) ?_
    subst hQ; exact m_iret X hr hlk hM dX10_sentence_20 rfl ⟨rfl, h_mo⟩
set_option maxHeartbeats 4000000 in
set_option maxRecDepth 20000 in
theorem c_X10_sentence_0 (l : Launch) (E : Nat → Nat → Nat) (b : Nat) (mo : Nat → Int → Int) (co : Nat → Int → Int) (d : Int) (hO : OkC co) (hR : RelC co (mo 1)) (hS : SnI co) (gd : Rg d) (nk : ¬ (0 ≤ d ∧ d < 6)) : Mu l yX10_sentence cX10_sentence 2 (some .int) 2 0 0 E [(b, 5)] [.ref b, .int (zI d)] (fun H => PR E b (modelW E b mo) H) (fun rv H => rv = some (.int (zI 0)) ∧ PR E b (modelW E b (updC mo 0 (updZ (mo 0) 0 1))) H) := by
  refine Mu.start (own := RX10) rfl (by decide +kernel) (Nat.le_of_ble_eq_true rfl) ?_
  intro p e s m below meth cd args Q hQ X hr hlk hnm hM hPr
  have h_mo := hPr
  have hb0 := hO.b0
  have hbw := hO.bw
  have hr0 := hR.s0
  have hr1 := hR.s1
  refine v_aload_n X dX10_sentence_0 1 rfl 0 rfl ?_
  refine v_iload_n X dX10_sentence_1 2 rfl 1 rfl ?_
  refine v_rdS X hM.C (ws0 E s.heap) (c_X10_isDefendant l E d gd) kvX10_isDefendant ksX10_isDefendant kl_X10_65 (As := [.int (zI d)]) rfl rfl rfl dX10_sentence_2 5 rfl ?_
  show V p l e (rmL 2 0 0) s m args below meth cd Q 2 s.heap [] 0 0 5 [(0, .ref b), (1, .int (zI d))] [.int (zI (bz (0 ≤ d ∧ d < 6))), .ref b]
  refine V_S (st' := [.int (zI 0), .ref b]) (by rw [bz_f (φ := 0 ≤ d ∧ d < 6) (by first | omega | assumption)]) ?_
  refine v_muV X hM (h_mo.1) (c_X10_isFine_0 l E b mo) kvX10_isFine kiX10_isFine kl_X10_124 (q0 := 0) rfl rfl (As := [.int (zI 0)]) rfl rfl rfl dX10_sentence_5 8 rfl (k' := 0) (n' := 0) rfl rfl (fsI (fun q q1 q2 => (Or.inl (fsH (by omega) (by omega))))) h_mo (fun rv H1 lo1 hM hF hpo => ?_)
  obtain ⟨rfl, hw_0⟩ := hpo
  have h_mo : PR E b (modelW E b (updC mo 0 (updZ (mo 0) 0 1))) H1 := hw_0
  show V p l e (rmL 2 0 0) s m args below meth cd Q 2 H1 lo1 0 0 8 [(0, .ref b), (1, .int (zI d))] [.int (zI 0)]
  refine v_if_eq X (by omega) dX10_sentence_8 11 19 rfl (by decide) (fun c_2 => ?_) (fun c_2 => ?_)
  · skip
    refine v_iconst X dX10_sentence_19 20 rfl ?_
    subst hQ; exact m_iret X hr hlk hM dX10_sentence_20 rfl ⟨rfl, h_mo⟩
  · skip
    exfalso; omega
set_option maxHeartbeats 4000000 in
set_option maxRecDepth 20000 in
theorem c_X10_sentenceByCases (l : Launch) (E : Nat → Nat → Nat) (b : Nat) (mo : Nat → Int → Int) (co : Nat → Int → Int) (d : Int) (hO : OkC co) (hR : RelC co (mo 1)) (hS : SnI co) (gd : Rg d) (p0 : 0 ≤ d ∧ d < 6) : Mu l yX10_sentenceByCases cX10_sentenceByCases 2 (some .int) 4 0 0 E [(b, 5)] [.ref b, .int (zI d)] (fun H => PR E b (modelW E b mo) H) (fun rv H => rv = some (.int (zI (co 12 d))) ∧ PR E b (modelW E b (updC mo 0 (updZ (mo 0) 0 0))) H) := by
  refine Mu.start (own := RX10) rfl (by decide +kernel) (Nat.le_of_ble_eq_true rfl) ?_
  intro p e s m below meth cd args Q hQ X hr hlk hnm hM hPr
  have h_mo := hPr
  have hb0 := hO.b0
  have hbw := hO.bw
  have hr0 := hR.s0
  have hr1 := hR.s1
  refine v_aload_n X dX10_sentenceByCases_0 1 rfl 0 rfl ?_
  refine v_iload_n X dX10_sentenceByCases_1 2 rfl 1 rfl ?_
  refine v_muV X hM (h_mo.1) (c_X10_sentence l E b mo co d hO hR hS gd p0) kvX10_sentence kiX10_sentence kl_X10_150 (q0 := 0) rfl rfl (As := [.int (zI d)]) rfl rfl rfl dX10_sentenceByCases_2 5 rfl (k' := 0) (n' := 0) rfl rfl (fsI (fun q q1 q2 => (Or.inl (fsH (by omega) (by omega))))) h_mo (fun rv H1 lo1 hM hF hpo => ?_)
  obtain ⟨rfl, hw_0⟩ := hpo
  have h_mo : PR E b (modelW E b (updC mo 0 (updZ (mo 0) 0 0))) H1 := hw_0
  show V p l e (rmL 4 0 0) s m args below meth cd Q 2 H1 lo1 0 0 5 [(0, .ref b), (1, .int (zI d))] [.int (zI (co 12 d))]
  have hb_2 := hO.b12 d
  subst hQ; exact m_iret X hr hlk hM dX10_sentenceByCases_5 rfl ⟨rfl, h_mo⟩
set_option maxHeartbeats 4000000 in
set_option maxRecDepth 20000 in
theorem c_X10_sentenceByCases_0 (l : Launch) (E : Nat → Nat → Nat) (b : Nat) (mo : Nat → Int → Int) (co : Nat → Int → Int) (d : Int) (hO : OkC co) (hR : RelC co (mo 1)) (hS : SnI co) (gd : Rg d) (nk : ¬ (0 ≤ d ∧ d < 6)) : Mu l yX10_sentenceByCases cX10_sentenceByCases 2 (some .int) 3 0 0 E [(b, 5)] [.ref b, .int (zI d)] (fun H => PR E b (modelW E b mo) H) (fun rv H => rv = some (.int (zI 0)) ∧ PR E b (modelW E b (updC mo 0 (updZ (mo 0) 0 1))) H) := by
  refine Mu.start (own := RX10) rfl (by decide +kernel) (Nat.le_of_ble_eq_true rfl) ?_
  intro p e s m below meth cd args Q hQ X hr hlk hnm hM hPr
  have h_mo := hPr
  have hb0 := hO.b0
  have hbw := hO.bw
  have hr0 := hR.s0
  have hr1 := hR.s1
  refine v_aload_n X dX10_sentenceByCases_0 1 rfl 0 rfl ?_
  refine v_iload_n X dX10_sentenceByCases_1 2 rfl 1 rfl ?_
  refine v_muV X hM (h_mo.1) (c_X10_sentence_0 l E b mo co d hO hR hS gd nk) kvX10_sentence kiX10_sentence kl_X10_150 (q0 := 0) rfl rfl (As := [.int (zI d)]) rfl rfl rfl dX10_sentenceByCases_2 5 rfl (k' := 0) (n' := 0) rfl rfl (fsI (fun q q1 q2 => (Or.inl (fsH (by omega) (by omega))))) h_mo (fun rv H1 lo1 hM hF hpo => ?_)
  obtain ⟨rfl, hw_0⟩ := hpo
  have h_mo : PR E b (modelW E b (updC mo 0 (updZ (mo 0) 0 1))) H1 := hw_0
  show V p l e (rmL 3 0 0) s m args below meth cd Q 2 H1 lo1 0 0 5 [(0, .ref b), (1, .int (zI d))] [.int (zI 0)]
  subst hQ; exact m_iret X hr hlk hM dX10_sentenceByCases_5 rfl ⟨rfl, h_mo⟩
set_option maxHeartbeats 4000000 in
set_option maxRecDepth 20000 in
theorem c_X10_docketLength (l : Launch) (E : Nat → Nat → Nat) (b : Nat) (mo : Nat → Int → Int) (co : Nat → Int → Int) (hO : OkC co) (hR : RelC co (mo 1)) : Mu l yX10_docketLength cX10_docketLength 1 (some .int) 2 0 0 E [(b, 5)] [.ref b] (fun H => PR E b (modelW E b mo) H) (fun rv H => rv = some (.int (zI (sumZ (fun j => bz (co 3 j = 0)) (co 0 0).toNat))) ∧ PR E b (modelW E b (updC mo 0 (updZ (mo 0) 0 0))) H) := by
  refine Mu.start (own := RX10) rfl (by decide +kernel) (Nat.le_of_ble_eq_true rfl) ?_
  intro p e s m below meth cd args Q hQ X hr hlk hnm hM hPr
  have h_mo := hPr
  have hb0 := hO.b0
  have hbw := hO.bw
  have hr0 := hR.s0
  have hr1 := hR.s1
  refine v_aload_n X dX10_docketLength_0 1 rfl 0 rfl ?_
  refine v_iconst X dX10_docketLength_1 2 rfl ?_
  refine v_putf X hM h_mo ftX10 0 rfl rfl 0 (by decide) kf_X10_30 (fun _ h => h) rfl rfl rfl (Nat.le_of_ble_eq_true rfl) (Or.inl (fsH (by omega) (by omega))) dX10_docketLength_2 5 rfl (ws' := modelW E b (updC mo 0 (updZ (mo 0) 0 0))) rfl (fun H1 lo1 hzz hM hF h_mo => ?_)
  clear hzz
  refine v_aload_n X dX10_docketLength_5 6 rfl 0 rfl ?_
  refine v_iconst X dX10_docketLength_6 7 rfl ?_
  refine v_iconst X dX10_docketLength_7 8 rfl ?_
  refine v_rdV X hM.C h_mo.1 (c_X10_inPhase_0 l E b (updC mo 0 (updZ (mo 0) 0 0)) co hO hR) kvX10_inPhase kiX10_inPhase kl_X10_118 rfl rfl (As := [.int (zI 0), .int (zI (-1))]) rfl rfl rfl dX10_docketLength_8 11 rfl ?_
  show V p l e (rmL 2 0 0) s m args below meth cd Q 1 H1 lo1 0 0 11 [(0, .ref b)] [.int (zI (sumZ (fun j => bz (co 3 j = 0)) (co 0 0).toNat))]
  have hb_2 := hO.b0
  have hf_3 := cnt_b (fun j => co 3 j = 0) (co 0 0).toNat
  subst hQ; exact m_iret X hr hlk hM dX10_docketLength_11 rfl ⟨rfl, h_mo⟩
set_option maxHeartbeats 4000000 in
set_option maxRecDepth 20000 in
theorem c_X10_closedCount (l : Launch) (E : Nat → Nat → Nat) (b : Nat) (mo : Nat → Int → Int) (co : Nat → Int → Int) (hO : OkC co) (hR : RelC co (mo 1)) : Mu l yX10_closedCount cX10_closedCount 1 (some .int) 2 0 0 E [(b, 5)] [.ref b] (fun H => PR E b (modelW E b mo) H) (fun rv H => rv = some (.int (zI (sumZ (fun j => bz (co 3 j = 2)) (co 0 0).toNat))) ∧ PR E b (modelW E b (updC mo 0 (updZ (mo 0) 0 0))) H) := by
  refine Mu.start (own := RX10) rfl (by decide +kernel) (Nat.le_of_ble_eq_true rfl) ?_
  intro p e s m below meth cd args Q hQ X hr hlk hnm hM hPr
  have h_mo := hPr
  have hb0 := hO.b0
  have hbw := hO.bw
  have hr0 := hR.s0
  have hr1 := hR.s1
  refine v_aload_n X dX10_closedCount_0 1 rfl 0 rfl ?_
  refine v_iconst X dX10_closedCount_1 2 rfl ?_
  refine v_putf X hM h_mo ftX10 0 rfl rfl 0 (by decide) kf_X10_30 (fun _ h => h) rfl rfl rfl (Nat.le_of_ble_eq_true rfl) (Or.inl (fsH (by omega) (by omega))) dX10_closedCount_2 5 rfl (ws' := modelW E b (updC mo 0 (updZ (mo 0) 0 0))) rfl (fun H1 lo1 hzz hM hF h_mo => ?_)
  clear hzz
  refine v_aload_n X dX10_closedCount_5 6 rfl 0 rfl ?_
  refine v_iconst X dX10_closedCount_6 7 rfl ?_
  refine v_iconst X dX10_closedCount_7 8 rfl ?_
  refine v_rdV X hM.C h_mo.1 (c_X10_inPhase_2 l E b (updC mo 0 (updZ (mo 0) 0 0)) co hO hR) kvX10_inPhase kiX10_inPhase kl_X10_118 rfl rfl (As := [.int (zI 2), .int (zI (-1))]) rfl rfl rfl dX10_closedCount_8 11 rfl ?_
  show V p l e (rmL 2 0 0) s m args below meth cd Q 1 H1 lo1 0 0 11 [(0, .ref b)] [.int (zI (sumZ (fun j => bz (co 3 j = 2)) (co 0 0).toNat))]
  have hb_2 := hO.b0
  have hf_3 := cnt_b (fun j => co 3 j = 2) (co 0 0).toNat
  subst hQ; exact m_iret X hr hlk hM dX10_closedCount_11 rfl ⟨rfl, h_mo⟩
set_option maxHeartbeats 4000000 in
set_option maxRecDepth 20000 in
theorem c_X10_docketPosition (l : Launch) (E : Nat → Nat → Nat) (b : Nat) (mo : Nat → Int → Int) (co : Nat → Int → Int) (k : Int) (hO : OkC co) (hR : RelC co (mo 1)) (gk : Rg k) (p0 : 0 ≤ k ∧ k < co 0 0) (p1 : co 3 k = 0) : Mu l yX10_docketPosition cX10_docketPosition 2 (some .int) 3 0 0 E [(b, 5)] [.ref b, .int (zI k)] (fun H => PR E b (modelW E b mo) H) (fun rv H => (rv = some (.int (zI (sumZ (fun j => bz (co 3 j = 0 ∧ cbC co j k)) (co 0 0).toNat)))) ∧ PR E b (modelW E b (updC mo 0 (updZ (mo 0) 0 0))) H) := by
  refine Mu.start (own := RX10) rfl (by decide +kernel) (Nat.le_of_ble_eq_true rfl) ?_
  intro p e s m below meth cd args Q hQ X hr hlk hnm hM hPr
  have h_mo := hPr
  have hb0 := hO.b0
  have hbw := hO.bw
  have hr0 := hR.s0
  have hr1 := hR.s1
  refine v_aload_n X dX10_docketPosition_0 1 rfl 0 rfl ?_
  refine v_aload_n X dX10_docketPosition_1 2 rfl 0 rfl ?_
  refine v_iload_n X dX10_docketPosition_2 3 rfl 1 rfl ?_
  refine v_rdV X hM.C h_mo.1 (c_X10_isCase l E b mo co k hO hR gk) kvX10_isCase kiX10_isCase kl_X10_92 rfl rfl (As := [.int (zI k)]) rfl rfl rfl dX10_docketPosition_3 6 rfl ?_
  show V p l e (rmL 3 0 0) s m args below meth cd Q 2 s.heap [] 0 0 6 [(0, .ref b), (1, .int (zI k))] [.int (zI (bz (0 ≤ k ∧ k < co 0 0))), .ref b]
  refine v_bif_ne X dX10_docketPosition_6 9 13 rfl (by decide) (fun c_1 => ?_) (fun c_1 => ?_)
  · skip
    refine v_aload_n X dX10_docketPosition_13 14 rfl 0 rfl ?_
    refine v_iload_n X dX10_docketPosition_14 15 rfl 1 rfl ?_
    refine v_iconst X dX10_docketPosition_15 16 rfl ?_
    have hb_2 := hO.b0
    refine v_rdV X hM.C h_mo.1 (c_X10_c_2 l E b mo co k hO hR (by omega) (by omega)) kvX10_c kiX10_c kl_X10_47 rfl rfl (As := [.int (zI k), .int (zI 2)]) rfl rfl rfl dX10_docketPosition_16 19 rfl ?_
    show V p l e (rmL 3 0 0) s m args below meth cd Q 2 s.heap [] 0 0 19 [(0, .ref b), (1, .int (zI k))] [.int (zI (co 3 k)), .ref b]
    have hb_3 := hO.b3 k
    refine v_if_eq X (by omega) dX10_docketPosition_19 22 26 rfl (by decide) (fun c_4 => ?_) (fun c_4 => ?_)
    · skip
      refine v_iconst X dX10_docketPosition_26 27 rfl ?_
      refine v_putf X hM h_mo ftX10 0 rfl rfl 0 (by decide) kf_X10_30 (fun _ h => h) rfl rfl rfl (Nat.le_of_ble_eq_true rfl) (Or.inl (fsH (by omega) (by omega))) dX10_docketPosition_27 30 rfl (ws' := modelW E b (updC mo 0 (updZ (mo 0) 0 0))) rfl (fun H5 lo5 hzz hM hF h_mo => ?_)
      clear hzz
      refine v_aload_n X dX10_docketPosition_30 31 rfl 0 rfl ?_
      refine v_getf X hM.C h_mo.1 inX10 0 rfl rfl 0 (by decide) kf_X10_30 (fun _ h => h) rfl dX10_docketPosition_31 34 rfl ?_
      show V p l e (rmL 3 0 0) s m args below meth cd Q 2 H5 lo5 0 0 34 [(0, .ref b), (1, .int (zI k))] [.int (zI 0)]
      refine v_if_ne X (by omega) dX10_docketPosition_34 37 45 rfl (by decide) (fun c_6 => ?_) (fun c_6 => ?_)
      · skip
        exfalso; omega
      · skip
        refine v_aload_n X dX10_docketPosition_37 38 rfl 0 rfl ?_
        refine v_iload_n X dX10_docketPosition_38 39 rfl 1 rfl ?_
        refine v_rdV X hM.C h_mo.1 (c_X10_rankOf l E b (updC mo 0 (updZ (mo 0) 0 0)) co k hO hR (by omega) (by omega)) kvX10_rankOf kiX10_rankOf kl_X10_153 rfl rfl (As := [.int (zI k)]) rfl rfl rfl dX10_docketPosition_39 42 rfl ?_
        show V p l e (rmL 3 0 0) s m args below meth cd Q 2 H5 lo5 0 0 42 [(0, .ref b), (1, .int (zI k))] [.int (zI (sumZ (fun j => bz (co 3 j = 0 ∧ cbC co j k)) (co 0 0).toNat))]
        have hf_7 := cnt_b (fun j => co 3 j = 0 ∧ cbC co j k) (co 0 0).toNat
        refine v_goto X dX10_docketPosition_42 46 (by decide) ?_
        subst hQ; exact m_iret X hr hlk hM dX10_docketPosition_46 rfl ⟨rfl, h_mo⟩
    · skip
      refine v_iconst X dX10_docketPosition_22 23 rfl ?_
      refine v_goto X dX10_docketPosition_23 27 (by decide) ?_
      refine v_putf X hM h_mo ftX10 0 rfl rfl 0 (by decide) kf_X10_30 (fun _ h => h) rfl rfl rfl (Nat.le_of_ble_eq_true rfl) (Or.inl (fsH (by omega) (by omega))) dX10_docketPosition_27 30 rfl (ws' := modelW E b (updC mo 0 (updZ (mo 0) 0 2))) rfl (fun H8 lo8 hzz hM hF h_mo => ?_)
      clear hzz
      refine v_aload_n X dX10_docketPosition_30 31 rfl 0 rfl ?_
      refine v_getf X hM.C h_mo.1 inX10 0 rfl rfl 0 (by decide) kf_X10_30 (fun _ h => h) rfl dX10_docketPosition_31 34 rfl ?_
      show V p l e (rmL 3 0 0) s m args below meth cd Q 2 H8 lo8 0 0 34 [(0, .ref b), (1, .int (zI k))] [.int (zI 2)]
      refine v_if_ne X (by omega) dX10_docketPosition_34 37 45 rfl (by decide) (fun c_9 => ?_) (fun c_9 => ?_)
      · skip
        refine v_iconst X dX10_docketPosition_45 46 rfl ?_
        exfalso; omega
      · skip
        exfalso; omega
  · skip
    exfalso; first | omega | contradiction
set_option maxHeartbeats 4000000 in
set_option maxRecDepth 20000 in
theorem c_X10_docketPosition_0 (l : Launch) (E : Nat → Nat → Nat) (b : Nat) (mo : Nat → Int → Int) (co : Nat → Int → Int) (k : Int) (hO : OkC co) (hR : RelC co (mo 1)) (gk : Rg k) (nk : ¬ (0 ≤ k ∧ k < co 0 0)) : Mu l yX10_docketPosition cX10_docketPosition 2 (some .int) 2 0 0 E [(b, 5)] [.ref b, .int (zI k)] (fun H => PR E b (modelW E b mo) H) (fun rv H => rv = some (.int (zI 0)) ∧ PR E b (modelW E b (updC mo 0 (updZ (mo 0) 0 1))) H) := by
  refine Mu.start (own := RX10) rfl (by decide +kernel) (Nat.le_of_ble_eq_true rfl) ?_
  intro p e s m below meth cd args Q hQ X hr hlk hnm hM hPr
  have h_mo := hPr
  have hb0 := hO.b0
  have hbw := hO.bw
  have hr0 := hR.s0
  have hr1 := hR.s1
  refine v_aload_n X dX10_docketPosition_0 1 rfl 0 rfl ?_
  refine v_aload_n X dX10_docketPosition_1 2 rfl 0 rfl ?_
  refine v_iload_n X dX10_docketPosition_2 3 rfl 1 rfl ?_
  refine v_rdV X hM.C h_mo.1 (c_X10_isCase l E b mo co k hO hR gk) kvX10_isCase kiX10_isCase kl_X10_92 rfl rfl (As := [.int (zI k)]) rfl rfl rfl dX10_docketPosition_3 6 rfl ?_
  show V p l e (rmL 2 0 0) s m args below meth cd Q 2 s.heap [] 0 0 6 [(0, .ref b), (1, .int (zI k))] [.int (zI (bz (0 ≤ k ∧ k < co 0 0))), .ref b]
  refine v_bif_ne X dX10_docketPosition_6 9 13 rfl (by decide) (fun c_1 => ?_) (fun c_1 => ?_)
  · skip
    exfalso; first | omega | contradiction
  · skip
    refine v_iconst X dX10_docketPosition_9 10 rfl ?_
    refine v_goto X dX10_docketPosition_10 27 (by decide) ?_
    refine v_putf X hM h_mo ftX10 0 rfl rfl 0 (by decide) kf_X10_30 (fun _ h => h) rfl rfl rfl (Nat.le_of_ble_eq_true rfl) (Or.inl (fsH (by omega) (by omega))) dX10_docketPosition_27 30 rfl (ws' := modelW E b (updC mo 0 (updZ (mo 0) 0 1))) rfl (fun H2 lo2 hzz hM hF h_mo => ?_)
    clear hzz
    refine v_aload_n X dX10_docketPosition_30 31 rfl 0 rfl ?_
    refine v_getf X hM.C h_mo.1 inX10 0 rfl rfl 0 (by decide) kf_X10_30 (fun _ h => h) rfl dX10_docketPosition_31 34 rfl ?_
    show V p l e (rmL 2 0 0) s m args below meth cd Q 2 H2 lo2 0 0 34 [(0, .ref b), (1, .int (zI k))] [.int (zI 1)]
    refine v_if_ne X (by omega) dX10_docketPosition_34 37 45 rfl (by decide) (fun c_3 => ?_) (fun c_3 => ?_)
    · skip
      refine v_iconst X dX10_docketPosition_45 46 rfl ?_
      subst hQ; exact m_iret X hr hlk hM dX10_docketPosition_46 rfl ⟨rfl, h_mo⟩
    · skip
      exfalso; omega
set_option maxHeartbeats 4000000 in
set_option maxRecDepth 20000 in
theorem c_X10_docketPosition_1 (l : Launch) (E : Nat → Nat → Nat) (b : Nat) (mo : Nat → Int → Int) (co : Nat → Int → Int) (k : Int) (hO : OkC co) (hR : RelC co (mo 1)) (gk : Rg k) (p0 : 0 ≤ k ∧ k < co 0 0) (nk : ¬ (co 3 k = 0)) : Mu l yX10_docketPosition cX10_docketPosition 2 (some .int) 3 0 0 E [(b, 5)] [.ref b, .int (zI k)] (fun H => PR E b (modelW E b mo) H) (fun rv H => rv = some (.int (zI 0)) ∧ PR E b (modelW E b (updC mo 0 (updZ (mo 0) 0 2))) H) := by
  refine Mu.start (own := RX10) rfl (by decide +kernel) (Nat.le_of_ble_eq_true rfl) ?_
  intro p e s m below meth cd args Q hQ X hr hlk hnm hM hPr
  have h_mo := hPr
  have hb0 := hO.b0
  have hbw := hO.bw
  have hr0 := hR.s0
  have hr1 := hR.s1
  refine v_aload_n X dX10_docketPosition_0 1 rfl 0 rfl ?_
  refine v_aload_n X dX10_docketPosition_1 2 rfl 0 rfl ?_
  refine v_iload_n X dX10_docketPosition_2 3 rfl 1 rfl ?_
  refine v_rdV X hM.C h_mo.1 (c_X10_isCase l E b mo co k hO hR gk) kvX10_isCase kiX10_isCase kl_X10_92 rfl rfl (As := [.int (zI k)]) rfl rfl rfl dX10_docketPosition_3 6 rfl ?_
  show V p l e (rmL 3 0 0) s m args below meth cd Q 2 s.heap [] 0 0 6 [(0, .ref b), (1, .int (zI k))] [.int (zI (bz (0 ≤ k ∧ k < co 0 0))), .ref b]
  refine v_bif_ne X dX10_docketPosition_6 9 13 rfl (by decide) (fun c_1 => ?_) (fun c_1 => ?_)
  · skip
    refine v_aload_n X dX10_docketPosition_13 14 rfl 0 rfl ?_
    refine v_iload_n X dX10_docketPosition_14 15 rfl 1 rfl ?_
    refine v_iconst X dX10_docketPosition_15 16 rfl ?_
    have hb_2 := hO.b0
    refine v_rdV X hM.C h_mo.1 (c_X10_c_2 l E b mo co k hO hR (by omega) (by omega)) kvX10_c kiX10_c kl_X10_47 rfl rfl (As := [.int (zI k), .int (zI 2)]) rfl rfl rfl dX10_docketPosition_16 19 rfl ?_
    show V p l e (rmL 3 0 0) s m args below meth cd Q 2 s.heap [] 0 0 19 [(0, .ref b), (1, .int (zI k))] [.int (zI (co 3 k)), .ref b]
    have hb_3 := hO.b3 k
    refine v_if_eq X (by omega) dX10_docketPosition_19 22 26 rfl (by decide) (fun c_4 => ?_) (fun c_4 => ?_)
    · skip
      refine v_iconst X dX10_docketPosition_26 27 rfl ?_
      refine v_putf X hM h_mo ftX10 0 rfl rfl 0 (by decide) kf_X10_30 (fun _ h => h) rfl rfl rfl (Nat.le_of_ble_eq_true rfl) (Or.inl (fsH (by omega) (by omega))) dX10_docketPosition_27 30 rfl (ws' := modelW E b (updC mo 0 (updZ (mo 0) 0 0))) rfl (fun H5 lo5 hzz hM hF h_mo => ?_)
      clear hzz
      refine v_aload_n X dX10_docketPosition_30 31 rfl 0 rfl ?_
      refine v_getf X hM.C h_mo.1 inX10 0 rfl rfl 0 (by decide) kf_X10_30 (fun _ h => h) rfl dX10_docketPosition_31 34 rfl ?_
      show V p l e (rmL 3 0 0) s m args below meth cd Q 2 H5 lo5 0 0 34 [(0, .ref b), (1, .int (zI k))] [.int (zI 0)]
      refine v_if_ne X (by omega) dX10_docketPosition_34 37 45 rfl (by decide) (fun c_6 => ?_) (fun c_6 => ?_)
      · skip
        exfalso; omega
      · skip
        refine v_aload_n X dX10_docketPosition_37 38 rfl 0 rfl ?_
        refine v_iload_n X dX10_docketPosition_38 39 rfl 1 rfl ?_
        refine v_rdV X hM.C h_mo.1 (c_X10_rankOf l E b (updC mo 0 (updZ (mo 0) 0 0)) co k hO hR (by omega) (by omega)) kvX10_rankOf kiX10_rankOf kl_X10_153 rfl rfl (As := [.int (zI k)]) rfl rfl rfl dX10_docketPosition_39 42 rfl ?_
        show V p l e (rmL 3 0 0) s m args below meth cd Q 2 H5 lo5 0 0 42 [(0, .ref b), (1, .int (zI k))] [.int (zI (sumZ (fun j => bz (co 3 j = 0 ∧ cbC co j k)) (co 0 0).toNat))]
        have hf_7 := cnt_b (fun j => co 3 j = 0 ∧ cbC co j k) (co 0 0).toNat
        refine v_goto X dX10_docketPosition_42 46 (by decide) ?_
        exfalso; omega
    · skip
      refine v_iconst X dX10_docketPosition_22 23 rfl ?_
      refine v_goto X dX10_docketPosition_23 27 (by decide) ?_
      refine v_putf X hM h_mo ftX10 0 rfl rfl 0 (by decide) kf_X10_30 (fun _ h => h) rfl rfl rfl (Nat.le_of_ble_eq_true rfl) (Or.inl (fsH (by omega) (by omega))) dX10_docketPosition_27 30 rfl (ws' := modelW E b (updC mo 0 (updZ (mo 0) 0 2))) rfl (fun H8 lo8 hzz hM hF h_mo => ?_)
      clear hzz
      refine v_aload_n X dX10_docketPosition_30 31 rfl 0 rfl ?_
      refine v_getf X hM.C h_mo.1 inX10 0 rfl rfl 0 (by decide) kf_X10_30 (fun _ h => h) rfl dX10_docketPosition_31 34 rfl ?_
      show V p l e (rmL 3 0 0) s m args below meth cd Q 2 H8 lo8 0 0 34 [(0, .ref b), (1, .int (zI k))] [.int (zI 2)]
      refine v_if_ne X (by omega) dX10_docketPosition_34 37 45 rfl (by decide) (fun c_9 => ?_) (fun c_9 => ?_)
      · skip
        refine v_iconst X dX10_docketPosition_45 46 rfl ?_
        subst hQ; exact m_iret X hr hlk hM dX10_docketPosition_46 rfl ⟨rfl, h_mo⟩
      · skip
        exfalso; omega
  · skip
    exfalso; first | omega | contradiction
set_option maxHeartbeats 4000000 in
set_option maxRecDepth 20000 in
theorem c_X10_isConsistent (l : Launch) (E : Nat → Nat → Nat) (b : Nat) (mo : Nat → Int → Int) (co : Nat → Int → Int) (hO : OkC co) (hR : RelC co (mo 1)) : Mu l yX10_isConsistent cX10_isConsistent 1 (some .boolean) 0 0 0 E [(b, 5)] [.ref b] (fun H => PR E b (modelW E b mo) H) (fun rv H => rv = some (.int (zI 1)) ∧ PR E b (modelW E b (updC mo 0 (updZ (mo 0) 0 0))) H) := by
  refine Mu.start (own := RX10) rfl (by decide +kernel) (Nat.le_of_ble_eq_true rfl) ?_
  intro p e s m below meth cd args Q hQ X hr hlk hnm hM hPr
  have h_mo := hPr
  have hb0 := hO.b0
  have hbw := hO.bw
  have hr0 := hR.s0
  have hr1 := hR.s1
  refine v_aload_n X dX10_isConsistent_0 1 rfl 0 rfl ?_
  refine v_iconst X dX10_isConsistent_1 2 rfl ?_
  refine v_putf X hM h_mo ftX10 0 rfl rfl 0 (by decide) kf_X10_30 (fun _ h => h) rfl rfl rfl (Nat.le_of_ble_eq_true rfl) (Or.inl (fsH (by omega) (by omega))) dX10_isConsistent_2 5 rfl (ws' := modelW E b (updC mo 0 (updZ (mo 0) 0 0))) rfl (fun H1 lo1 hzz hM hF h_mo => ?_)
  clear hzz
  refine v_iconst X dX10_isConsistent_5 6 rfl ?_
  subst hQ; exact m_zret X hr hlk hM dX10_isConsistent_6 rfl (by omega) ⟨rfl, h_mo⟩
set_option maxHeartbeats 4000000 in
set_option maxRecDepth 20000 in
theorem c_X10_heaviestWitness (l : Launch) (E : Nat → Nat → Nat) (b : Nat) (mo : Nat → Int → Int) (co : Nat → Int → Int) (k : Int) (hO : OkC co) (hR : RelC co (mo 1)) (hI : TsI co) (gk : Rg k) (p0 : 0 ≤ k ∧ k < co 0 0) (p1 : 0 < co 6 k) : Mu l yX10_heaviestWitness cX10_heaviestWitness 4 (some .int) 2 0 0 E [(b, 5)] [.ref b, .int (zI k)] (fun H => PR E b (modelW E b mo) H) (fun rv H => rv = some (.int (zI (co 7 (k * 6 + amx (wtC co k) (co 6 k).toNat)))) ∧ PR E b (modelW E b (updC mo 0 (updZ (mo 0) 0 0))) H) := by
  refine Mu.start (own := RX10) rfl (by decide +kernel) (Nat.le_of_ble_eq_true rfl) ?_
  intro p e s m below meth cd args Q hQ X hr hlk hnm hM hPr
  have h_mo := hPr
  have hb0 := hO.b0
  have hbw := hO.bw
  have hr0 := hR.s0
  have hr1 := hR.s1
  have hb6 := hO.b6 k
  refine v_aload_n X dX10_heaviestWitness_0 1 rfl 0 rfl ?_
  refine v_aload_n X dX10_heaviestWitness_1 2 rfl 0 rfl ?_
  refine v_iload_n X dX10_heaviestWitness_2 3 rfl 1 rfl ?_
  refine v_rdV X hM.C h_mo.1 (c_X10_isCase l E b mo co k hO hR gk) kvX10_isCase kiX10_isCase kl_X10_92 rfl rfl (As := [.int (zI k)]) rfl rfl rfl dX10_heaviestWitness_3 6 rfl ?_
  show V p l e (rmL 2 0 0) s m args below meth cd Q 4 s.heap [] 0 0 6 [(0, .ref b), (1, .int (zI k))] [.int (zI (bz (0 ≤ k ∧ k < co 0 0))), .ref b]
  refine v_bif_ne X dX10_heaviestWitness_6 9 13 rfl (by decide) (fun c_1 => ?_) (fun c_1 => ?_)
  · skip
    refine v_aload_n X dX10_heaviestWitness_13 14 rfl 0 rfl ?_
    refine v_iload_n X dX10_heaviestWitness_14 15 rfl 1 rfl ?_
    refine v_iconst X dX10_heaviestWitness_15 16 rfl ?_
    have hb_2 := hO.b0
    refine v_rdV X hM.C h_mo.1 (c_X10_c_5 l E b mo co k hO hR (by omega) (by omega)) kvX10_c kiX10_c kl_X10_47 rfl rfl (As := [.int (zI k), .int (zI 5)]) rfl rfl rfl dX10_heaviestWitness_16 19 rfl ?_
    show V p l e (rmL 2 0 0) s m args below meth cd Q 4 s.heap [] 0 0 19 [(0, .ref b), (1, .int (zI k))] [.int (zI (co 6 k)), .ref b]
    have hb_3 := hO.b6 k
    refine v_if_ne X (by omega) dX10_heaviestWitness_19 22 26 rfl (by decide) (fun c_4 => ?_) (fun c_4 => ?_)
    · skip
      refine v_iconst X dX10_heaviestWitness_26 27 rfl ?_
      refine v_putf X hM h_mo ftX10 0 rfl rfl 0 (by decide) kf_X10_30 (fun _ h => h) rfl rfl rfl (Nat.le_of_ble_eq_true rfl) (Or.inl (fsH (by omega) (by omega))) dX10_heaviestWitness_27 30 rfl (ws' := modelW E b (updC mo 0 (updZ (mo 0) 0 0))) rfl (fun H5 lo5 hzz hM hF h_mo => ?_)
      clear hzz
      refine v_aload_n X dX10_heaviestWitness_30 31 rfl 0 rfl ?_
      refine v_getf X hM.C h_mo.1 inX10 0 rfl rfl 0 (by decide) kf_X10_30 (fun _ h => h) rfl dX10_heaviestWitness_31 34 rfl ?_
      show V p l e (rmL 2 0 0) s m args below meth cd Q 4 H5 lo5 0 0 34 [(0, .ref b), (1, .int (zI k))] [.int (zI 0)]
      refine v_if_eq X (by omega) dX10_heaviestWitness_34 37 39 rfl (by decide) (fun c_6 => ?_) (fun c_6 => ?_)
      · skip
        refine v_iconst X dX10_heaviestWitness_39 40 rfl ?_
        refine v_istore_n X dX10_heaviestWitness_40 41 rfl rfl (by decide) (L' := [(2, .int (zI 0)), (0, .ref b), (1, .int (zI k))]) rfl ?_
        refine v_iconst X dX10_heaviestWitness_41 42 rfl ?_
        refine v_istore_n X dX10_heaviestWitness_42 43 rfl rfl (by decide) (L' := [(3, .int (zI 1)), (2, .int (zI 0)), (0, .ref b), (1, .int (zI k))]) rfl ?_
        refine V_L (L' := [(3, .int (zI (0 + 1))), (2, .int (zI (amx (wtC co k) (0 + 1)))), (0, .ref b), (1, .int (zI k))]) (LC (vz (by rfl)) (LC (vz (by simp [amx])) (LC rfl (LC rfl rfl)))) ?_
        refine up_loop ((co 6 k).toNat - 1) (P := fun (i : Nat) => ∀ (H : Heap) (lo : List Loc), MS E [(b, 5)] s H lo → PR E b (modelW E b (updC mo 0 (updZ (mo 0) 0 0))) H → V p l e (rmL 2 0 0) s m args below meth cd Q 4 H lo 0 0 43 [(3, .int (zI ((i : Int) + 1))), (2, .int (zI (amx (wtC co k) (i + 1)))), (0, .ref b), (1, .int (zI k))] []) (fun i hi_i ih_i H7 lo7 hM h_mo => ?_) _ _ hM h_mo
        have hbx := amx_b (wtC co k) (i + 1)
        refine v_iload_n X dX10_heaviestWitness_43 44 rfl 0 rfl ?_
        refine v_aload_n X dX10_heaviestWitness_44 45 rfl 2 rfl ?_
        refine v_iload_n X dX10_heaviestWitness_45 46 rfl 3 rfl ?_
        refine v_iconst X dX10_heaviestWitness_46 47 rfl ?_
        refine v_rdV X hM.C h_mo.1 (c_X10_c_5 l E b (updC mo 0 (updZ (mo 0) 0 0)) co k hO hR (by omega) (by omega)) kvX10_c kiX10_c kl_X10_47 rfl rfl (As := [.int (zI k), .int (zI 5)]) rfl rfl rfl dX10_heaviestWitness_47 50 rfl ?_
        show V p l e (rmL 2 0 0) s m args below meth cd Q 4 H7 lo7 0 0 50 [(3, .int (zI ((i : Int) + 1))), (2, .int (zI (amx (wtC co k) (i + 1)))), (0, .ref b), (1, .int (zI k))] [.int (zI (co 6 k)), .int (zI ((i : Int) + 1))]
        refine v_icmp_ge X (by omega) (by omega) dX10_heaviestWitness_50 53 80 rfl (by decide) (fun c_8 => ?_) (fun c_8 => ?_)
        · skip
          refine v_aload_n X dX10_heaviestWitness_80 81 rfl 2 rfl ?_
          refine v_iload_n X dX10_heaviestWitness_81 82 rfl 3 rfl ?_
          refine v_iload_n X dX10_heaviestWitness_82 83 rfl 1 rfl ?_
          refine v_iconst X dX10_heaviestWitness_83 84 rfl ?_
          refine v_rdV X hM.C h_mo.1 (c_X10_t_0 l E b (updC mo 0 (updZ (mo 0) 0 0)) co k (amx (wtC co k) (i + 1)) hO hR (by omega) (by omega) (by omega) (by omega)) kvX10_t kiX10_t kl_X10_51 rfl rfl (As := [.int (zI k), .int (zI (amx (wtC co k) (i + 1))), .int (zI 0)]) rfl rfl rfl dX10_heaviestWitness_84 87 rfl ?_
          show V p l e (rmL 2 0 0) s m args below meth cd Q 4 H7 lo7 0 0 87 [(3, .int (zI ((i : Int) + 1))), (2, .int (zI (amx (wtC co k) (i + 1)))), (0, .ref b), (1, .int (zI k))] [.int (zI (co 7 (k * 6 + (amx (wtC co k) (i + 1)))))]
          have hb_9 := hO.b7 (k * 6 + (amx (wtC co k) (i + 1)))
          subst hQ; exact m_iret X hr hlk hM dX10_heaviestWitness_87 rfl ⟨(sv (by rw [show i + 1 = (co 6 k).toNat by omega])), h_mo⟩
        · skip
          refine v_aload_n X dX10_heaviestWitness_53 54 rfl 2 rfl ?_
          refine v_iload_n X dX10_heaviestWitness_54 55 rfl 3 rfl ?_
          refine v_iload_n X dX10_heaviestWitness_55 56 rfl 0 rfl ?_
          refine v_rdV X hM.C h_mo.1 (c_X10_weightAt l E b (updC mo 0 (updZ (mo 0) 0 0)) co k ((i : Int) + 1) hO hR hI (by omega) (by omega) (by omega) (by omega)) kvX10_weightAt kiX10_weightAt kl_X10_55 rfl rfl (As := [.int (zI k), .int (zI ((i : Int) + 1))]) rfl rfl rfl dX10_heaviestWitness_56 59 rfl ?_
          show V p l e (rmL 2 0 0) s m args below meth cd Q 4 H7 lo7 0 0 59 [(3, .int (zI ((i : Int) + 1))), (2, .int (zI (amx (wtC co k) (i + 1)))), (0, .ref b), (1, .int (zI k))] [.int (zI (wtC co k ((i : Int) + 1)))]
          have hf_10 := wtC_b hO k ((i : Int) + 1)
          refine v_aload_n X dX10_heaviestWitness_59 60 rfl 2 rfl ?_
          refine v_iload_n X dX10_heaviestWitness_60 61 rfl 3 rfl ?_
          refine v_iload_n X dX10_heaviestWitness_61 62 rfl 1 rfl ?_
          refine v_rdV X hM.C h_mo.1 (c_X10_weightAt l E b (updC mo 0 (updZ (mo 0) 0 0)) co k (amx (wtC co k) (i + 1)) hO hR hI (by omega) (by omega) (by omega) (by omega)) kvX10_weightAt kiX10_weightAt kl_X10_55 rfl rfl (As := [.int (zI k), .int (zI (amx (wtC co k) (i + 1)))]) rfl rfl rfl dX10_heaviestWitness_62 65 rfl ?_
          show V p l e (rmL 2 0 0) s m args below meth cd Q 4 H7 lo7 0 0 65 [(3, .int (zI ((i : Int) + 1))), (2, .int (zI (amx (wtC co k) (i + 1)))), (0, .ref b), (1, .int (zI k))] [.int (zI (wtC co k (amx (wtC co k) (i + 1)))), .int (zI (wtC co k ((i : Int) + 1)))]
          have hf_11 := wtC_b hO k (amx (wtC co k) (i + 1))
          refine v_icmp_le X (by omega) (by omega) dX10_heaviestWitness_65 68 72 rfl (by decide) (fun c_12 => ?_) (fun c_12 => ?_)
          · skip
            refine v_iload_n X dX10_heaviestWitness_72 73 rfl 1 rfl ?_
            refine v_istore_n X dX10_heaviestWitness_73 74 rfl rfl (by decide) (L' := [(2, .int (zI (amx (wtC co k) (i + 1)))), (3, .int (zI ((i : Int) + 1))), (0, .ref b), (1, .int (zI k))]) rfl ?_
            refine v_iinc X dX10_heaviestWitness_74 77 rfl 1 rfl (by decide) (L' := [(3, .int (zI ((i : Int) + 1 + 1))), (2, .int (zI (amx (wtC co k) (i + 1)))), (0, .ref b), (1, .int (zI k))]) rfl ?_
            refine v_goto X dX10_heaviestWitness_77 43 (by decide) ?_
            exact V_L (L' := [(3, .int (zI (((i + 1 : Nat) : Int) + 1))), (2, .int (zI (amx (wtC co k) ((i + 1) + 1)))), (0, .ref b), (1, .int (zI k))]) (LC (vz (by omega)) (LC (vz (by rw [amx_s (wtC co k) (i + 1)]; first | (rw [if_pos (by assumption)]; rfl) | rw [if_neg (Int.not_lt.mpr (by assumption))])) (LC rfl (LC rfl rfl)))) (ih_i (by omega) _ _ hM h_mo)
          · skip
            refine v_iload_n X dX10_heaviestWitness_68 69 rfl 0 rfl ?_
            refine v_goto X dX10_heaviestWitness_69 73 (by decide) ?_
            refine v_istore_n X dX10_heaviestWitness_73 74 rfl rfl (by decide) (L' := [(2, .int (zI ((i : Int) + 1))), (3, .int (zI ((i : Int) + 1))), (0, .ref b), (1, .int (zI k))]) rfl ?_
            refine v_iinc X dX10_heaviestWitness_74 77 rfl 1 rfl (by decide) (L' := [(3, .int (zI ((i : Int) + 1 + 1))), (2, .int (zI ((i : Int) + 1))), (0, .ref b), (1, .int (zI k))]) rfl ?_
            refine v_goto X dX10_heaviestWitness_77 43 (by decide) ?_
            exact V_L (L' := [(3, .int (zI (((i + 1 : Nat) : Int) + 1))), (2, .int (zI (amx (wtC co k) ((i + 1) + 1)))), (0, .ref b), (1, .int (zI k))]) (LC (vz (by omega)) (LC (vz (by rw [amx_s (wtC co k) (i + 1)]; first | (rw [if_pos (by assumption)]; rfl) | rw [if_neg (Int.not_lt.mpr (by assumption))])) (LC rfl (LC rfl rfl)))) (ih_i (by omega) _ _ hM h_mo)
      · skip
        exfalso; omega
    · skip
      refine v_iconst X dX10_heaviestWitness_22 23 rfl ?_
      refine v_goto X dX10_heaviestWitness_23 27 (by decide) ?_
      refine v_putf X hM h_mo ftX10 0 rfl rfl 0 (by decide) kf_X10_30 (fun _ h => h) rfl rfl rfl (Nat.le_of_ble_eq_true rfl) (Or.inl (fsH (by omega) (by omega))) dX10_heaviestWitness_27 30 rfl (ws' := modelW E b (updC mo 0 (updZ (mo 0) 0 2))) rfl (fun H13 lo13 hzz hM hF h_mo => ?_)
      clear hzz
      refine v_aload_n X dX10_heaviestWitness_30 31 rfl 0 rfl ?_
      refine v_getf X hM.C h_mo.1 inX10 0 rfl rfl 0 (by decide) kf_X10_30 (fun _ h => h) rfl dX10_heaviestWitness_31 34 rfl ?_
      show V p l e (rmL 2 0 0) s m args below meth cd Q 4 H13 lo13 0 0 34 [(0, .ref b), (1, .int (zI k))] [.int (zI 2)]
      refine v_if_eq X (by omega) dX10_heaviestWitness_34 37 39 rfl (by decide) (fun c_14 => ?_) (fun c_14 => ?_)
      · skip
        exfalso; omega
      · skip
        refine v_iconst X dX10_heaviestWitness_37 38 rfl ?_
        exfalso; omega
  · skip
    exfalso; first | omega | contradiction
set_option maxHeartbeats 4000000 in
set_option maxRecDepth 20000 in
theorem c_X10_heaviestWitness_0 (l : Launch) (E : Nat → Nat → Nat) (b : Nat) (mo : Nat → Int → Int) (co : Nat → Int → Int) (k : Int) (hO : OkC co) (hR : RelC co (mo 1)) (hI : TsI co) (gk : Rg k) (nk : ¬ (0 ≤ k ∧ k < co 0 0)) : Mu l yX10_heaviestWitness cX10_heaviestWitness 4 (some .int) 2 0 0 E [(b, 5)] [.ref b, .int (zI k)] (fun H => PR E b (modelW E b mo) H) (fun rv H => rv = some (.int (zI 0)) ∧ PR E b (modelW E b (updC mo 0 (updZ (mo 0) 0 1))) H) := by
  refine Mu.start (own := RX10) rfl (by decide +kernel) (Nat.le_of_ble_eq_true rfl) ?_
  intro p e s m below meth cd args Q hQ X hr hlk hnm hM hPr
  have h_mo := hPr
  have hb0 := hO.b0
  have hbw := hO.bw
  have hr0 := hR.s0
  have hr1 := hR.s1
  refine v_aload_n X dX10_heaviestWitness_0 1 rfl 0 rfl ?_
  refine v_aload_n X dX10_heaviestWitness_1 2 rfl 0 rfl ?_
  refine v_iload_n X dX10_heaviestWitness_2 3 rfl 1 rfl ?_
  refine v_rdV X hM.C h_mo.1 (c_X10_isCase l E b mo co k hO hR gk) kvX10_isCase kiX10_isCase kl_X10_92 rfl rfl (As := [.int (zI k)]) rfl rfl rfl dX10_heaviestWitness_3 6 rfl ?_
  show V p l e (rmL 2 0 0) s m args below meth cd Q 4 s.heap [] 0 0 6 [(0, .ref b), (1, .int (zI k))] [.int (zI (bz (0 ≤ k ∧ k < co 0 0))), .ref b]
  refine v_bif_ne X dX10_heaviestWitness_6 9 13 rfl (by decide) (fun c_1 => ?_) (fun c_1 => ?_)
  · skip
    exfalso; first | omega | contradiction
  · skip
    refine v_iconst X dX10_heaviestWitness_9 10 rfl ?_
    refine v_goto X dX10_heaviestWitness_10 27 (by decide) ?_
    refine v_putf X hM h_mo ftX10 0 rfl rfl 0 (by decide) kf_X10_30 (fun _ h => h) rfl rfl rfl (Nat.le_of_ble_eq_true rfl) (Or.inl (fsH (by omega) (by omega))) dX10_heaviestWitness_27 30 rfl (ws' := modelW E b (updC mo 0 (updZ (mo 0) 0 1))) rfl (fun H2 lo2 hzz hM hF h_mo => ?_)
    clear hzz
    refine v_aload_n X dX10_heaviestWitness_30 31 rfl 0 rfl ?_
    refine v_getf X hM.C h_mo.1 inX10 0 rfl rfl 0 (by decide) kf_X10_30 (fun _ h => h) rfl dX10_heaviestWitness_31 34 rfl ?_
    show V p l e (rmL 2 0 0) s m args below meth cd Q 4 H2 lo2 0 0 34 [(0, .ref b), (1, .int (zI k))] [.int (zI 1)]
    refine v_if_eq X (by omega) dX10_heaviestWitness_34 37 39 rfl (by decide) (fun c_3 => ?_) (fun c_3 => ?_)
    · skip
      exfalso; omega
    · skip
      refine v_iconst X dX10_heaviestWitness_37 38 rfl ?_
      subst hQ; exact m_iret X hr hlk hM dX10_heaviestWitness_38 rfl ⟨rfl, h_mo⟩
set_option maxHeartbeats 4000000 in
set_option maxRecDepth 20000 in
theorem c_X10_heaviestWitness_1 (l : Launch) (E : Nat → Nat → Nat) (b : Nat) (mo : Nat → Int → Int) (co : Nat → Int → Int) (k : Int) (hO : OkC co) (hR : RelC co (mo 1)) (hI : TsI co) (gk : Rg k) (p0 : 0 ≤ k ∧ k < co 0 0) (nk : ¬ (0 < co 6 k)) : Mu l yX10_heaviestWitness cX10_heaviestWitness 4 (some .int) 2 0 0 E [(b, 5)] [.ref b, .int (zI k)] (fun H => PR E b (modelW E b mo) H) (fun rv H => rv = some (.int (zI 0)) ∧ PR E b (modelW E b (updC mo 0 (updZ (mo 0) 0 2))) H) := by
  refine Mu.start (own := RX10) rfl (by decide +kernel) (Nat.le_of_ble_eq_true rfl) ?_
  intro p e s m below meth cd args Q hQ X hr hlk hnm hM hPr
  have h_mo := hPr
  have hb0 := hO.b0
  have hbw := hO.bw
  have hr0 := hR.s0
  have hr1 := hR.s1
  have hb6 := hO.b6 k
  refine v_aload_n X dX10_heaviestWitness_0 1 rfl 0 rfl ?_
  refine v_aload_n X dX10_heaviestWitness_1 2 rfl 0 rfl ?_
  refine v_iload_n X dX10_heaviestWitness_2 3 rfl 1 rfl ?_
  refine v_rdV X hM.C h_mo.1 (c_X10_isCase l E b mo co k hO hR gk) kvX10_isCase kiX10_isCase kl_X10_92 rfl rfl (As := [.int (zI k)]) rfl rfl rfl dX10_heaviestWitness_3 6 rfl ?_
  show V p l e (rmL 2 0 0) s m args below meth cd Q 4 s.heap [] 0 0 6 [(0, .ref b), (1, .int (zI k))] [.int (zI (bz (0 ≤ k ∧ k < co 0 0))), .ref b]
  refine v_bif_ne X dX10_heaviestWitness_6 9 13 rfl (by decide) (fun c_1 => ?_) (fun c_1 => ?_)
  · skip
    refine v_aload_n X dX10_heaviestWitness_13 14 rfl 0 rfl ?_
    refine v_iload_n X dX10_heaviestWitness_14 15 rfl 1 rfl ?_
    refine v_iconst X dX10_heaviestWitness_15 16 rfl ?_
    have hb_2 := hO.b0
    refine v_rdV X hM.C h_mo.1 (c_X10_c_5 l E b mo co k hO hR (by omega) (by omega)) kvX10_c kiX10_c kl_X10_47 rfl rfl (As := [.int (zI k), .int (zI 5)]) rfl rfl rfl dX10_heaviestWitness_16 19 rfl ?_
    show V p l e (rmL 2 0 0) s m args below meth cd Q 4 s.heap [] 0 0 19 [(0, .ref b), (1, .int (zI k))] [.int (zI (co 6 k)), .ref b]
    have hb_3 := hO.b6 k
    refine v_if_ne X (by omega) dX10_heaviestWitness_19 22 26 rfl (by decide) (fun c_4 => ?_) (fun c_4 => ?_)
    · skip
      refine v_iconst X dX10_heaviestWitness_26 27 rfl ?_
      refine v_putf X hM h_mo ftX10 0 rfl rfl 0 (by decide) kf_X10_30 (fun _ h => h) rfl rfl rfl (Nat.le_of_ble_eq_true rfl) (Or.inl (fsH (by omega) (by omega))) dX10_heaviestWitness_27 30 rfl (ws' := modelW E b (updC mo 0 (updZ (mo 0) 0 0))) rfl (fun H5 lo5 hzz hM hF h_mo => ?_)
      clear hzz
      refine v_aload_n X dX10_heaviestWitness_30 31 rfl 0 rfl ?_
      refine v_getf X hM.C h_mo.1 inX10 0 rfl rfl 0 (by decide) kf_X10_30 (fun _ h => h) rfl dX10_heaviestWitness_31 34 rfl ?_
      show V p l e (rmL 2 0 0) s m args below meth cd Q 4 H5 lo5 0 0 34 [(0, .ref b), (1, .int (zI k))] [.int (zI 0)]
      refine v_if_eq X (by omega) dX10_heaviestWitness_34 37 39 rfl (by decide) (fun c_6 => ?_) (fun c_6 => ?_)
      · skip
        refine v_iconst X dX10_heaviestWitness_39 40 rfl ?_
        refine v_istore_n X dX10_heaviestWitness_40 41 rfl rfl (by decide) (L' := [(2, .int (zI 0)), (0, .ref b), (1, .int (zI k))]) rfl ?_
        refine v_iconst X dX10_heaviestWitness_41 42 rfl ?_
        refine v_istore_n X dX10_heaviestWitness_42 43 rfl rfl (by decide) (L' := [(3, .int (zI 1)), (2, .int (zI 0)), (0, .ref b), (1, .int (zI k))]) rfl ?_
        refine V_L (L' := [(3, .int (zI (0 + 1))), (2, .int (zI (amx (wtC co k) (0 + 1)))), (0, .ref b), (1, .int (zI k))]) (LC (vz (by rfl)) (LC (vz (by simp [amx])) (LC rfl (LC rfl rfl)))) ?_
        refine up_loop ((co 6 k).toNat - 1) (P := fun (i : Nat) => ∀ (H : Heap) (lo : List Loc), MS E [(b, 5)] s H lo → PR E b (modelW E b (updC mo 0 (updZ (mo 0) 0 0))) H → V p l e (rmL 2 0 0) s m args below meth cd Q 4 H lo 0 0 43 [(3, .int (zI ((i : Int) + 1))), (2, .int (zI (amx (wtC co k) (i + 1)))), (0, .ref b), (1, .int (zI k))] []) (fun i hi_i ih_i H7 lo7 hM h_mo => ?_) _ _ hM h_mo
        have hbx := amx_b (wtC co k) (i + 1)
        refine v_iload_n X dX10_heaviestWitness_43 44 rfl 0 rfl ?_
        refine v_aload_n X dX10_heaviestWitness_44 45 rfl 2 rfl ?_
        refine v_iload_n X dX10_heaviestWitness_45 46 rfl 3 rfl ?_
        refine v_iconst X dX10_heaviestWitness_46 47 rfl ?_
        refine v_rdV X hM.C h_mo.1 (c_X10_c_5 l E b (updC mo 0 (updZ (mo 0) 0 0)) co k hO hR (by omega) (by omega)) kvX10_c kiX10_c kl_X10_47 rfl rfl (As := [.int (zI k), .int (zI 5)]) rfl rfl rfl dX10_heaviestWitness_47 50 rfl ?_
        show V p l e (rmL 2 0 0) s m args below meth cd Q 4 H7 lo7 0 0 50 [(3, .int (zI ((i : Int) + 1))), (2, .int (zI (amx (wtC co k) (i + 1)))), (0, .ref b), (1, .int (zI k))] [.int (zI (co 6 k)), .int (zI ((i : Int) + 1))]
        refine v_icmp_ge X (by omega) (by omega) dX10_heaviestWitness_50 53 80 rfl (by decide) (fun c_8 => ?_) (fun c_8 => ?_)
        · skip
          refine v_aload_n X dX10_heaviestWitness_80 81 rfl 2 rfl ?_
          refine v_iload_n X dX10_heaviestWitness_81 82 rfl 3 rfl ?_
          refine v_iload_n X dX10_heaviestWitness_82 83 rfl 1 rfl ?_
          refine v_iconst X dX10_heaviestWitness_83 84 rfl ?_
          refine v_rdV X hM.C h_mo.1 (c_X10_t_0 l E b (updC mo 0 (updZ (mo 0) 0 0)) co k (amx (wtC co k) (i + 1)) hO hR (by omega) (by omega) (by omega) (by omega)) kvX10_t kiX10_t kl_X10_51 rfl rfl (As := [.int (zI k), .int (zI (amx (wtC co k) (i + 1))), .int (zI 0)]) rfl rfl rfl dX10_heaviestWitness_84 87 rfl ?_
          show V p l e (rmL 2 0 0) s m args below meth cd Q 4 H7 lo7 0 0 87 [(3, .int (zI ((i : Int) + 1))), (2, .int (zI (amx (wtC co k) (i + 1)))), (0, .ref b), (1, .int (zI k))] [.int (zI (co 7 (k * 6 + (amx (wtC co k) (i + 1)))))]
          have hb_9 := hO.b7 (k * 6 + (amx (wtC co k) (i + 1)))
          exfalso; omega
        · skip
          refine v_aload_n X dX10_heaviestWitness_53 54 rfl 2 rfl ?_
          refine v_iload_n X dX10_heaviestWitness_54 55 rfl 3 rfl ?_
          refine v_iload_n X dX10_heaviestWitness_55 56 rfl 0 rfl ?_
          refine v_rdV X hM.C h_mo.1 (c_X10_weightAt l E b (updC mo 0 (updZ (mo 0) 0 0)) co k ((i : Int) + 1) hO hR hI (by omega) (by omega) (by omega) (by omega)) kvX10_weightAt kiX10_weightAt kl_X10_55 rfl rfl (As := [.int (zI k), .int (zI ((i : Int) + 1))]) rfl rfl rfl dX10_heaviestWitness_56 59 rfl ?_
          show V p l e (rmL 2 0 0) s m args below meth cd Q 4 H7 lo7 0 0 59 [(3, .int (zI ((i : Int) + 1))), (2, .int (zI (amx (wtC co k) (i + 1)))), (0, .ref b), (1, .int (zI k))] [.int (zI (wtC co k ((i : Int) + 1)))]
          have hf_10 := wtC_b hO k ((i : Int) + 1)
          refine v_aload_n X dX10_heaviestWitness_59 60 rfl 2 rfl ?_
          refine v_iload_n X dX10_heaviestWitness_60 61 rfl 3 rfl ?_
          refine v_iload_n X dX10_heaviestWitness_61 62 rfl 1 rfl ?_
          refine v_rdV X hM.C h_mo.1 (c_X10_weightAt l E b (updC mo 0 (updZ (mo 0) 0 0)) co k (amx (wtC co k) (i + 1)) hO hR hI (by omega) (by omega) (by omega) (by omega)) kvX10_weightAt kiX10_weightAt kl_X10_55 rfl rfl (As := [.int (zI k), .int (zI (amx (wtC co k) (i + 1)))]) rfl rfl rfl dX10_heaviestWitness_62 65 rfl ?_
          show V p l e (rmL 2 0 0) s m args below meth cd Q 4 H7 lo7 0 0 65 [(3, .int (zI ((i : Int) + 1))), (2, .int (zI (amx (wtC co k) (i + 1)))), (0, .ref b), (1, .int (zI k))] [.int (zI (wtC co k (amx (wtC co k) (i + 1)))), .int (zI (wtC co k ((i : Int) + 1)))]
          have hf_11 := wtC_b hO k (amx (wtC co k) (i + 1))
          refine v_icmp_le X (by omega) (by omega) dX10_heaviestWitness_65 68 72 rfl (by decide) (fun c_12 => ?_) (fun c_12 => ?_)
          · skip
            refine v_iload_n X dX10_heaviestWitness_72 73 rfl 1 rfl ?_
            refine v_istore_n X dX10_heaviestWitness_73 74 rfl rfl (by decide) (L' := [(2, .int (zI (amx (wtC co k) (i + 1)))), (3, .int (zI ((i : Int) + 1))), (0, .ref b), (1, .int (zI k))]) rfl ?_
            refine v_iinc X dX10_heaviestWitness_74 77 rfl 1 rfl (by decide) (L' := [(3, .int (zI ((i : Int) + 1 + 1))), (2, .int (zI (amx (wtC co k) (i + 1)))), (0, .ref b), (1, .int (zI k))]) rfl ?_
            refine v_goto X dX10_heaviestWitness_77 43 (by decide) ?_
            exact V_L (L' := [(3, .int (zI (((i + 1 : Nat) : Int) + 1))), (2, .int (zI (amx (wtC co k) ((i + 1) + 1)))), (0, .ref b), (1, .int (zI k))]) (LC (vz (by omega)) (LC (vz (by rw [amx_s (wtC co k) (i + 1)]; first | (rw [if_pos (by assumption)]; rfl) | rw [if_neg (Int.not_lt.mpr (by assumption))])) (LC rfl (LC rfl rfl)))) (ih_i (by omega) _ _ hM h_mo)
          · skip
            refine v_iload_n X dX10_heaviestWitness_68 69 rfl 0 rfl ?_
            refine v_goto X dX10_heaviestWitness_69 73 (by decide) ?_
            refine v_istore_n X dX10_heaviestWitness_73 74 rfl rfl (by decide) (L' := [(2, .int (zI ((i : Int) + 1))), (3, .int (zI ((i : Int) + 1))), (0, .ref b), (1, .int (zI k))]) rfl ?_
            refine v_iinc X dX10_heaviestWitness_74 77 rfl 1 rfl (by decide) (L' := [(3, .int (zI ((i : Int) + 1 + 1))), (2, .int (zI ((i : Int) + 1))), (0, .ref b), (1, .int (zI k))]) rfl ?_
            refine v_goto X dX10_heaviestWitness_77 43 (by decide) ?_
            exact V_L (L' := [(3, .int (zI (((i + 1 : Nat) : Int) + 1))), (2, .int (zI (amx (wtC co k) ((i + 1) + 1)))), (0, .ref b), (1, .int (zI k))]) (LC (vz (by omega)) (LC (vz (by rw [amx_s (wtC co k) (i + 1)]; first | (rw [if_pos (by assumption)]; rfl) | rw [if_neg (Int.not_lt.mpr (by assumption))])) (LC rfl (LC rfl rfl)))) (ih_i (by omega) _ _ hM h_mo)
      · skip
        exfalso; omega
    · skip
      refine v_iconst X dX10_heaviestWitness_22 23 rfl ?_
      refine v_goto X dX10_heaviestWitness_23 27 (by decide) ?_
      refine v_putf X hM h_mo ftX10 0 rfl rfl 0 (by decide) kf_X10_30 (fun _ h => h) rfl rfl rfl (Nat.le_of_ble_eq_true rfl) (Or.inl (fsH (by omega) (by omega))) dX10_heaviestWitness_27 30 rfl (ws' := modelW E b (updC mo 0 (updZ (mo 0) 0 2))) rfl (fun H13 lo13 hzz hM hF h_mo => ?_)
      clear hzz
      refine v_aload_n X dX10_heaviestWitness_30 31 rfl 0 rfl ?_
      refine v_getf X hM.C h_mo.1 inX10 0 rfl rfl 0 (by decide) kf_X10_30 (fun _ h => h) rfl dX10_heaviestWitness_31 34 rfl ?_
      show V p l e (rmL 2 0 0) s m args below meth cd Q 4 H13 lo13 0 0 34 [(0, .ref b), (1, .int (zI k))] [.int (zI 2)]
      refine v_if_eq X (by omega) dX10_heaviestWitness_34 37 39 rfl (by decide) (fun c_14 => ?_) (fun c_14 => ?_)
      · skip
        exfalso; omega
      · skip
        refine v_iconst X dX10_heaviestWitness_37 38 rfl ?_
        subst hQ; exact m_iret X hr hlk hM dX10_heaviestWitness_38 rfl ⟨rfl, h_mo⟩
  · skip
    exfalso; first | omega | contradiction
set_option maxHeartbeats 4000000 in
set_option maxRecDepth 20000 in
theorem c_X10_mostSentenced (l : Launch) (E : Nat → Nat → Nat) (b : Nat) (mo : Nat → Int → Int) (co : Nat → Int → Int) (hO : OkC co) (hR : RelC co (mo 1)) (hS : SnI co) : Mu l yX10_mostSentenced cX10_mostSentenced 3 (some .int) 3 0 0 E [(b, 5)] [.ref b] (fun H => PR E b (modelW E b mo) H) (fun rv H => rv = some (.int (zI (amx (co 12) 6))) ∧ PR E b (modelW E b (updC mo 0 (updZ (mo 0) 0 0))) H) := by
  refine Mu.start (own := RX10) rfl (by decide +kernel) (Nat.le_of_ble_eq_true rfl) ?_
  intro p e s m below meth cd args Q hQ X hr hlk hnm hM hPr
  have h_mo := hPr
  have hb0 := hO.b0
  have hbw := hO.bw
  have hr0 := hR.s0
  have hr1 := hR.s1
  refine v_aload_n X dX10_mostSentenced_0 1 rfl 0 rfl ?_
  refine v_iconst X dX10_mostSentenced_1 2 rfl ?_
  refine v_putf X hM h_mo ftX10 0 rfl rfl 0 (by decide) kf_X10_30 (fun _ h => h) rfl rfl rfl (Nat.le_of_ble_eq_true rfl) (Or.inl (fsH (by omega) (by omega))) dX10_mostSentenced_2 5 rfl (ws' := modelW E b (updC mo 0 (updZ (mo 0) 0 0))) rfl (fun H1 lo1 hzz hM hF h_mo => ?_)
  clear hzz
  refine v_iconst X dX10_mostSentenced_5 6 rfl ?_
  refine v_istore_n X dX10_mostSentenced_6 7 rfl rfl (by decide) (L' := [(1, .int (zI 0)), (0, .ref b)]) rfl ?_
  refine v_iconst X dX10_mostSentenced_7 8 rfl ?_
  refine v_istore_n X dX10_mostSentenced_8 9 rfl rfl (by decide) (L' := [(2, .int (zI 1)), (1, .int (zI 0)), (0, .ref b)]) rfl ?_
  refine V_L (L' := [(2, .int (zI (0 + 1))), (1, .int (zI (amx (co 12) (0 + 1)))), (0, .ref b)]) (LC (vz (by rfl)) (LC (vz (by simp [amx])) (LC rfl rfl))) ?_
  refine up_loop 5 (P := fun (i : Nat) => ∀ (H : Heap) (lo : List Loc), MS E [(b, 5)] s H lo → PR E b (modelW E b (updC mo 0 (updZ (mo 0) 0 0))) H → V p l e (rmL 3 0 0) s m args below meth cd Q 3 H lo 0 0 9 [(2, .int (zI ((i : Int) + 1))), (1, .int (zI (amx (co 12) (i + 1)))), (0, .ref b)] []) (fun i hi_i ih_i H2 lo2 hM h_mo => ?_) _ _ hM h_mo
  have hbx := amx_b (co 12) (i + 1)
  refine v_iload_n X dX10_mostSentenced_9 10 rfl 0 rfl ?_
  refine v_bipush X dX10_mostSentenced_10 12 rfl rfl ?_
  refine v_icmp_ge X (by omega) (by omega) dX10_mostSentenced_12 15 40 rfl (by decide) (fun c_3 => ?_) (fun c_3 => ?_)
  · skip
    refine v_iload_n X dX10_mostSentenced_40 41 rfl 1 rfl ?_
    subst hQ; exact m_iret X hr hlk hM dX10_mostSentenced_41 rfl ⟨(sv (by rw [show i = 5 by omega])), h_mo⟩
  · skip
    refine v_aload_n X dX10_mostSentenced_15 16 rfl 2 rfl ?_
    refine v_iload_n X dX10_mostSentenced_16 17 rfl 0 rfl ?_
    refine v_rdV X hM.C h_mo.1 (c_X10_sentenceOf l E b (updC mo 0 (updZ (mo 0) 0 0)) co ((i : Int) + 1) hO hR hS (by omega) (by omega)) kvX10_sentenceOf kiX10_sentenceOf kl_X10_147 rfl rfl (As := [.int (zI ((i : Int) + 1))]) rfl rfl rfl dX10_mostSentenced_17 20 rfl ?_
    show V p l e (rmL 3 0 0) s m args below meth cd Q 3 H2 lo2 0 0 20 [(2, .int (zI ((i : Int) + 1))), (1, .int (zI (amx (co 12) (i + 1)))), (0, .ref b)] [.int (zI (co 12 ((i : Int) + 1)))]
    have hb_4 := hO.b12 ((i : Int) + 1)
    refine v_aload_n X dX10_mostSentenced_20 21 rfl 2 rfl ?_
    refine v_iload_n X dX10_mostSentenced_21 22 rfl 1 rfl ?_
    refine v_rdV X hM.C h_mo.1 (c_X10_sentenceOf l E b (updC mo 0 (updZ (mo 0) 0 0)) co (amx (co 12) (i + 1)) hO hR hS (by omega) (by omega)) kvX10_sentenceOf kiX10_sentenceOf kl_X10_147 rfl rfl (As := [.int (zI (amx (co 12) (i + 1)))]) rfl rfl rfl dX10_mostSentenced_22 25 rfl ?_
    show V p l e (rmL 3 0 0) s m args below meth cd Q 3 H2 lo2 0 0 25 [(2, .int (zI ((i : Int) + 1))), (1, .int (zI (amx (co 12) (i + 1)))), (0, .ref b)] [.int (zI (co 12 (amx (co 12) (i + 1)))), .int (zI (co 12 ((i : Int) + 1)))]
    have hb_5 := hO.b12 (amx (co 12) (i + 1))
    refine v_icmp_le X (by omega) (by omega) dX10_mostSentenced_25 28 32 rfl (by decide) (fun c_6 => ?_) (fun c_6 => ?_)
    · skip
      refine v_iload_n X dX10_mostSentenced_32 33 rfl 1 rfl ?_
      refine v_istore_n X dX10_mostSentenced_33 34 rfl rfl (by decide) (L' := [(1, .int (zI (amx (co 12) (i + 1)))), (2, .int (zI ((i : Int) + 1))), (0, .ref b)]) rfl ?_
      refine v_iinc X dX10_mostSentenced_34 37 rfl 1 rfl (by decide) (L' := [(2, .int (zI ((i : Int) + 1 + 1))), (1, .int (zI (amx (co 12) (i + 1)))), (0, .ref b)]) rfl ?_
      refine v_goto X dX10_mostSentenced_37 9 (by decide) ?_
      exact V_L (L' := [(2, .int (zI (((i + 1 : Nat) : Int) + 1))), (1, .int (zI (amx (co 12) ((i + 1) + 1)))), (0, .ref b)]) (LC (vz (by omega)) (LC (vz (by rw [amx_s (co 12) (i + 1)]; first | (rw [if_pos (by assumption)]; rfl) | rw [if_neg (Int.not_lt.mpr (by assumption))])) (LC rfl rfl))) (ih_i (by omega) _ _ hM h_mo)
    · skip
      refine v_iload_n X dX10_mostSentenced_28 29 rfl 0 rfl ?_
      refine v_goto X dX10_mostSentenced_29 33 (by decide) ?_
      refine v_istore_n X dX10_mostSentenced_33 34 rfl rfl (by decide) (L' := [(1, .int (zI ((i : Int) + 1))), (2, .int (zI ((i : Int) + 1))), (0, .ref b)]) rfl ?_
      refine v_iinc X dX10_mostSentenced_34 37 rfl 1 rfl (by decide) (L' := [(2, .int (zI ((i : Int) + 1 + 1))), (1, .int (zI ((i : Int) + 1))), (0, .ref b)]) rfl ?_
      refine v_goto X dX10_mostSentenced_37 9 (by decide) ?_
      exact V_L (L' := [(2, .int (zI (((i + 1 : Nat) : Int) + 1))), (1, .int (zI (amx (co 12) ((i + 1) + 1)))), (0, .ref b)]) (LC (vz (by omega)) (LC (vz (by rw [amx_s (co 12) (i + 1)]; first | (rw [if_pos (by assumption)]; rfl) | rw [if_neg (Int.not_lt.mpr (by assumption))])) (LC rfl rfl))) (ih_i (by omega) _ _ hM h_mo)
