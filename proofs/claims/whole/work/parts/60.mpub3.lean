theorem c_X10_testifies_ok (l : Launch) (E : Nat → Nat → Nat) (b : Nat) (mo : Nat → Int → Int) (co : Nat → Int → Int) (k : Int) (w : Int) (f : Int) (z : Int) (hO : OkC co) (hR : RelC co (mo 1)) (hI : TsI co) (gk : Rg k) (gw : Rg w) (gz : Rg z) (gf : 0 ≤ f ∧ f ≤ 1) (hf : flC co 2 k w z = 0) : Mu l yX10_testifies cX10_testifies 6 (some .int) 2 0 0 E [(b, 5)] [.ref b, .int (zI k), .int (zI w), .int (zI f), .int (zI z)] (fun H => PR E b (modelW E b mo) H) (fun rv H => ∃ g1 : Int → Int, rv = some (.int (zI 0)) ∧ RelC (opC co 2 k w f z) g1 ∧ (∀ i : Int, 492 ≤ i → g1 i = mo 1 i) ∧ PR E b (modelW E b (updC (updC mo 0 (updZ (mo 0) 4 (opV co 2 k w f z))) 1 g1)) H) := by
  rcases (show f = 0 ∨ f = 1 by omega) with e | e <;> subst e
  · exact c_X10_testifies_ok_0 l E b mo co k w z hO hR hI gk gw gz hf
  · exact c_X10_testifies_ok_1 l E b mo co k w z hO hR hI gk gw gz hf
theorem c_X10_asks_ok (l : Launch) (E : Nat → Nat → Nat) (b : Nat) (mo : Nat → Int → Int) (co : Nat → Int → Int) (k : Int) (w : Int) (f : Int) (hO : OkC co) (hR : RelC co (mo 1)) (hI : TsI co) (gk : Rg k) (gw : Rg w) (gf : 0 ≤ f ∧ f ≤ 1) (hf : flC co 3 k w 0 = 0) : Mu l yX10_asks cX10_asks 6 (some .int) 2 0 0 E [(b, 5)] [.ref b, .int (zI k), .int (zI w), .int (zI f)] (fun H => PR E b (modelW E b mo) H) (fun rv H => ∃ g1 : Int → Int, rv = some (.int (zI 0)) ∧ RelC (opC co 3 k w f 0) g1 ∧ (∀ i : Int, 492 ≤ i → g1 i = mo 1 i) ∧ PR E b (modelW E b (updC (updC mo 0 (updZ (mo 0) 4 (opV co 3 k w f 0))) 1 g1)) H) := by
  rcases (show f = 0 ∨ f = 1 by omega) with e | e <;> subst e
  · exact c_X10_asks_ok_0 l E b mo co k w hO hR hI gk gw hf
  · exact c_X10_asks_ok_1 l E b mo co k w hO hR hI gk gw hf
theorem c_X10_decides_ok (l : Launch) (E : Nat → Nat → Nat) (b : Nat) (mo : Nat → Int → Int) (co : Nat → Int → Int) (k : Int) (hO : OkC co) (hR : RelC co (mo 1)) (hI : TsI co) (gk : Rg k) (hf : flC co 4 k 0 0 = 0) : Mu l yX10_decides cX10_decides 2 (some .int) 4 0 0 E [(b, 5)] [.ref b, .int (zI k)] (fun H => PR E b (modelW E b mo) H) (fun rv H => ∃ g1 : Int → Int, rv = some (.int (zI 0)) ∧ RelC (opC co 4 k 0 0 0) g1 ∧ (∀ i : Int, 492 ≤ i → g1 i = mo 1 i) ∧ PR E b (modelW E b (updC (updC mo 0 (updZ (mo 0) 4 (opV co 4 k 0 0 0))) 1 g1)) H) := by
  by_cases hg : 0 < mgC co k
  · by_cases hla : 2 ≤ co 5 k
    · exact c_X10_decides_ok_11 l E b mo co k hO hR hI gk hf hg hla
    · exact c_X10_decides_ok_10 l E b mo co k hO hR hI gk hf hg (by omega)
  · by_cases hla : 2 ≤ co 5 k
    · exact c_X10_decides_ok_01 l E b mo co k hO hR hI gk hf (by omega) hla
    · exact c_X10_decides_ok_00 l E b mo co k hO hR hI gk hf (by omega) (by omega)
set_option maxHeartbeats 4000000 in
set_option maxRecDepth 20000 in
theorem c_X10_charge_ok (l : Launch) (E : Nat → Nat → Nat) (b : Nat) (mo : Nat → Int → Int) (co : Nat → Int → Int) (cv : Nat → Int → Int) (hc : Nat → Nat → Int → Int) (nx : Int) (sz : Int) (hs : Int) (d : Int) (o : Int) (hO : OkC co) (hI : TsI co) (hRM : RelM co cv hc nx sz hs (mo 1)) (hch : mo 0 2 = sz) (n0 : 0 ≤ nx) (n1 : nx < 8) (s0 : 0 ≤ sz) (s1 : sz ≤ 8) (gd : Rg d) (go : Rg o) (hSt : StI co) (hf : flC co 0 d o 0 = 0) (hO2 : OkC (opC co 0 d o 0 0)) : Mu l yX10_charge cX10_charge 3 (some .int) 3 0 0 E [(b, 5)] [.ref b, .int (zI d), .int (zI o)] (fun H => PR E b (modelW E b mo) H) (fun rv H => ∃ g2 : Int → Int, ∃ q4 : Int, rv = some (.int (zI (opV co 0 d o 0 0))) ∧ RelM (opC co 0 d o 0 0) (cv) (fun j => if j = nx.toNat then co else hc j) (if nx < 7 then nx + 1 else 0) (min (sz + 1) 8) (hs) g2 ∧ PR E b (modelW E b (updC (updC mo 0 (updZ (updZ (updZ (mo 0) 0 0) 2 (min (sz + 1) 8)) 4 q4)) 1 g2)) H) := by
  refine Mu.start (own := RX10) rfl (by decide +kernel) (Nat.le_of_ble_eq_true rfl) ?_
  intro p e s m below meth cd args Q hQ X hr hlk hnm hM hPr
  have h_mo := hPr
  have hb0 := hO.b0
  have hbw := hO.bw
  refine v_aload_n X dX10_charge_0 1 rfl 0 rfl ?_
  refine v_muV X hM (h_mo.1) (c_X10_begins l E b mo) kvX10_begins kiX10_begins kl_X10_79 (q0 := 0) rfl rfl (As := []) rfl rfl rfl dX10_charge_1 4 rfl (k' := 0) (n' := 0) rfl rfl (fsI (fun q q1 q2 => (Or.inl (fsH (by omega) (by omega))))) h_mo (fun rv H1 lo1 hM hF hpo => ?_)
  obtain ⟨rfl, hw_0⟩ := hpo
  have h_mo : PR E b (modelW E b (updC mo 1 (cpG ((mo 1)) 0 10))) H1 := hw_0
  show V p l e (rmL 3 0 0) s m args below meth cd Q 3 H1 lo1 0 0 4 [(0, .ref b), (1, .int (zI d)), (2, .int (zI o))] []
  have hR1 : RelC co (cpG (mo 1) 0 10) := hRM.1.2.of_eq hO (fun i a b => cpG_out (by omega))
  refine v_aload_n X dX10_charge_4 5 rfl 0 rfl ?_
  refine v_aload_n X dX10_charge_5 6 rfl 0 rfl ?_
  refine v_iload_n X dX10_charge_6 7 rfl 1 rfl ?_
  refine v_iload_n X dX10_charge_7 8 rfl 2 rfl ?_
  refine v_muV X hM (h_mo.1) (c_X10_charges_ok l E b (updC mo 1 (cpG ((mo 1)) 0 10)) co d o hO hR1 hI gd go hf hSt) kvX10_charges kiX10_charges kl_X10_82 (q0 := 0) rfl rfl (As := [.int (zI d), .int (zI o)]) rfl rfl rfl dX10_charge_8 11 rfl (k' := 0) (n' := 0) rfl rfl (fsI (fun q q1 q2 => (Or.inl (fsH (by omega) (by omega))))) h_mo (fun rv H2 lo2 hM hF hpo => ?_)
  obtain ⟨g1_3, rfl, hp_f_4, hp_f_5, hw_0⟩ := hpo
  have h_mo : PR E b (modelW E b (updC (updC mo 0 (updZ (mo 0) 4 (opV co 0 d o 0 0))) 1 g1_3)) H2 := hw_0
  show V p l e (rmL 3 0 0) s m args below meth cd Q 3 H2 lo2 0 0 11 [(0, .ref b), (1, .int (zI d)), (2, .int (zI o))] [.int (zI 0), .ref b]
  refine v_iconst X dX10_charge_11 12 rfl ?_
  refine v_iconst X dX10_charge_12 13 rfl ?_
  refine v_iconst X dX10_charge_13 14 rfl ?_
  refine v_iconst X dX10_charge_14 15 rfl ?_
  refine v_muV X hM (h_mo.1) (c_X10_ends_0 l E b (updC (updC mo 0 (updZ (mo 0) 4 (opV co 0 d o 0 0))) 1 g1_3) 0 1 0 2 sz hch s0 s1) kvX10_ends kiX10_ends kl_X10_85 (q0 := 0) rfl rfl (As := [.int (zI 0), .int (zI 0), .int (zI 1), .int (zI 0), .int (zI 2)]) rfl rfl rfl dX10_charge_15 18 rfl (k' := 0) (n' := 0) rfl rfl (fsI (fun q q1 q2 => (Or.inl (fsH (by omega) (by omega))))) h_mo (fun rv H6 lo6 hM hF hpo => ?_)
  obtain ⟨rfl, hw_0⟩ := hpo
  have h_mo : PR E b (modelW E b (updC (updC mo 0 (updZ (updZ (updZ (mo 0) 0 0) 2 (min (sz + 1) 8)) 4 (opV co 0 d o 0 0))) 1 (endG (g1_3) sz))) H6 := hw_0
  show V p l e (rmL 3 0 0) s m args below meth cd Q 3 H6 lo6 0 0 18 [(0, .ref b), (1, .int (zI d)), (2, .int (zI o))] [.int (zI (opV co 0 d o 0 0))]
  subst hQ; exact m_iret X hr hlk hM dX10_charge_18 rfl ⟨(endG (g1_3) sz), (opV co 0 d o 0 0), rfl, (by exact RelM.push hRM ⟨hO2, hp_f_4⟩ hp_f_5 n0 n1 s0 s1), h_mo⟩
set_option maxHeartbeats 4000000 in
set_option maxRecDepth 20000 in
theorem c_X10_charge_f2 (l : Launch) (E : Nat → Nat → Nat) (b : Nat) (mo : Nat → Int → Int) (co : Nat → Int → Int) (cv : Nat → Int → Int) (hc : Nat → Nat → Int → Int) (nx : Int) (sz : Int) (hs : Int) (d : Int) (o : Int) (hO : OkC co) (hI : TsI co) (hRM : RelM co cv hc nx sz hs (mo 1)) (hch : mo 0 2 = sz) (n0 : 0 ≤ nx) (n1 : nx < 8) (s0 : 0 ≤ sz) (s1 : sz ≤ 8) (gd : Rg d) (go : Rg o) (hf : flC co 0 d o 0 = 2) : Mu l yX10_charge cX10_charge 3 (some .int) 3 0 0 E [(b, 5)] [.ref b, .int (zI d), .int (zI o)] (fun H => PR E b (modelW E b mo) H) (fun rv H => ∃ g2 : Int → Int, rv = some (.int (zI 0)) ∧ RelM (co) (cv) (hc) (nx) (sz) (hs) g2 ∧ PR E b (modelW E b (updC (updC mo 0 (updZ (mo 0) 0 1)) 1 g2)) H) := by
  refine Mu.start (own := RX10) rfl (by decide +kernel) (Nat.le_of_ble_eq_true rfl) ?_
  intro p e s m below meth cd args Q hQ X hr hlk hnm hM hPr
  have h_mo := hPr
  have hb0 := hO.b0
  have hbw := hO.bw
  refine v_aload_n X dX10_charge_0 1 rfl 0 rfl ?_
  refine v_muV X hM (h_mo.1) (c_X10_begins l E b mo) kvX10_begins kiX10_begins kl_X10_79 (q0 := 0) rfl rfl (As := []) rfl rfl rfl dX10_charge_1 4 rfl (k' := 0) (n' := 0) rfl rfl (fsI (fun q q1 q2 => (Or.inl (fsH (by omega) (by omega))))) h_mo (fun rv H1 lo1 hM hF hpo => ?_)
  obtain ⟨rfl, hw_0⟩ := hpo
  have h_mo : PR E b (modelW E b (updC mo 1 (cpG ((mo 1)) 0 10))) H1 := hw_0
  show V p l e (rmL 3 0 0) s m args below meth cd Q 3 H1 lo1 0 0 4 [(0, .ref b), (1, .int (zI d)), (2, .int (zI o))] []
  have hR1 : RelC co (cpG (mo 1) 0 10) := hRM.1.2.of_eq hO (fun i a b => cpG_out (by omega))
  refine v_aload_n X dX10_charge_4 5 rfl 0 rfl ?_
  refine v_aload_n X dX10_charge_5 6 rfl 0 rfl ?_
  refine v_iload_n X dX10_charge_6 7 rfl 1 rfl ?_
  refine v_iload_n X dX10_charge_7 8 rfl 2 rfl ?_
  refine v_muV X hM (h_mo.1) (c_X10_charges_f2 l E b (updC mo 1 (cpG ((mo 1)) 0 10)) co d o hO hR1 hI gd go hf) kvX10_charges kiX10_charges kl_X10_82 (q0 := 0) rfl rfl (As := [.int (zI d), .int (zI o)]) rfl rfl rfl dX10_charge_8 11 rfl (k' := 0) (n' := 0) rfl rfl (fun q hq => hq.elim) h_mo (fun rv H2 lo2 hM hF hpo => ?_)
  subst hpo
  replace h_mo := h_mo.kept hF 5 rfl (fun q _ _ h => h.elim)
  show V p l e (rmL 3 0 0) s m args below meth cd Q 3 H2 lo2 0 0 11 [(0, .ref b), (1, .int (zI d)), (2, .int (zI o))] [.int (zI 2), .ref b]
  refine v_iconst X dX10_charge_11 12 rfl ?_
  refine v_iconst X dX10_charge_12 13 rfl ?_
  refine v_iconst X dX10_charge_13 14 rfl ?_
  refine v_iconst X dX10_charge_14 15 rfl ?_
  refine v_muV X hM (h_mo.1) (c_X10_ends_2 l E b (updC mo 1 (cpG ((mo 1)) 0 10)) 0 1 0 2 (by omega) (by omega)) kvX10_ends kiX10_ends kl_X10_85 (q0 := 0) rfl rfl (As := [.int (zI 2), .int (zI 0), .int (zI 1), .int (zI 0), .int (zI 2)]) rfl rfl rfl dX10_charge_15 18 rfl (k' := 0) (n' := 0) rfl rfl (fsI (fun q q1 q2 => (Or.inl (fsH (by omega) (by omega))))) h_mo (fun rv H3 lo3 hM hF hpo => ?_)
  obtain ⟨rfl, hw_0⟩ := hpo
  have h_mo : PR E b (modelW E b (updC (updC mo 0 (updZ (mo 0) 0 1)) 1 (cpG ((cpG ((mo 1)) 0 10)) 10 0))) H3 := hw_0
  show V p l e (rmL 3 0 0) s m args below meth cd Q 3 H3 lo3 0 0 18 [(0, .ref b), (1, .int (zI d)), (2, .int (zI o))] [.int (zI 0)]
  subst hQ; exact m_iret X hr hlk hM dX10_charge_18 rfl ⟨(cpG ((cpG ((mo 1)) 0 10)) 10 0), rfl, (by exact RelM.back hRM (fun i hi => rfl) s1), h_mo⟩
set_option maxHeartbeats 4000000 in
set_option maxRecDepth 20000 in
theorem c_X10_charge_f4 (l : Launch) (E : Nat → Nat → Nat) (b : Nat) (mo : Nat → Int → Int) (co : Nat → Int → Int) (cv : Nat → Int → Int) (hc : Nat → Nat → Int → Int) (nx : Int) (sz : Int) (hs : Int) (d : Int) (o : Int) (hO : OkC co) (hI : TsI co) (hRM : RelM co cv hc nx sz hs (mo 1)) (hch : mo 0 2 = sz) (n0 : 0 ≤ nx) (n1 : nx < 8) (s0 : 0 ≤ sz) (s1 : sz ≤ 8) (gd : Rg d) (go : Rg o) (hf : flC co 0 d o 0 = 4) : Mu l yX10_charge cX10_charge 3 (some .int) 3 0 0 E [(b, 5)] [.ref b, .int (zI d), .int (zI o)] (fun H => PR E b (modelW E b mo) H) (fun rv H => ∃ g2 : Int → Int, rv = some (.int (zI 0)) ∧ RelM (co) (cv) (hc) (nx) (sz) (hs) g2 ∧ PR E b (modelW E b (updC (updC mo 0 (updZ (mo 0) 0 2)) 1 g2)) H) := by
  refine Mu.start (own := RX10) rfl (by decide +kernel) (Nat.le_of_ble_eq_true rfl) ?_
  intro p e s m below meth cd args Q hQ X hr hlk hnm hM hPr
  have h_mo := hPr
  have hb0 := hO.b0
  have hbw := hO.bw
  refine v_aload_n X dX10_charge_0 1 rfl 0 rfl ?_
  refine v_muV X hM (h_mo.1) (c_X10_begins l E b mo) kvX10_begins kiX10_begins kl_X10_79 (q0 := 0) rfl rfl (As := []) rfl rfl rfl dX10_charge_1 4 rfl (k' := 0) (n' := 0) rfl rfl (fsI (fun q q1 q2 => (Or.inl (fsH (by omega) (by omega))))) h_mo (fun rv H1 lo1 hM hF hpo => ?_)
  obtain ⟨rfl, hw_0⟩ := hpo
  have h_mo : PR E b (modelW E b (updC mo 1 (cpG ((mo 1)) 0 10))) H1 := hw_0
  show V p l e (rmL 3 0 0) s m args below meth cd Q 3 H1 lo1 0 0 4 [(0, .ref b), (1, .int (zI d)), (2, .int (zI o))] []
  have hR1 : RelC co (cpG (mo 1) 0 10) := hRM.1.2.of_eq hO (fun i a b => cpG_out (by omega))
  refine v_aload_n X dX10_charge_4 5 rfl 0 rfl ?_
  refine v_aload_n X dX10_charge_5 6 rfl 0 rfl ?_
  refine v_iload_n X dX10_charge_6 7 rfl 1 rfl ?_
  refine v_iload_n X dX10_charge_7 8 rfl 2 rfl ?_
  refine v_muV X hM (h_mo.1) (c_X10_charges_f4 l E b (updC mo 1 (cpG ((mo 1)) 0 10)) co d o hO hR1 hI gd go hf) kvX10_charges kiX10_charges kl_X10_82 (q0 := 0) rfl rfl (As := [.int (zI d), .int (zI o)]) rfl rfl rfl dX10_charge_8 11 rfl (k' := 0) (n' := 0) rfl rfl (fun q hq => hq.elim) h_mo (fun rv H2 lo2 hM hF hpo => ?_)
  subst hpo
  replace h_mo := h_mo.kept hF 5 rfl (fun q _ _ h => h.elim)
  show V p l e (rmL 3 0 0) s m args below meth cd Q 3 H2 lo2 0 0 11 [(0, .ref b), (1, .int (zI d)), (2, .int (zI o))] [.int (zI 4), .ref b]
  refine v_iconst X dX10_charge_11 12 rfl ?_
  refine v_iconst X dX10_charge_12 13 rfl ?_
  refine v_iconst X dX10_charge_13 14 rfl ?_
  refine v_iconst X dX10_charge_14 15 rfl ?_
  refine v_muV X hM (h_mo.1) (c_X10_ends_4 l E b (updC mo 1 (cpG ((mo 1)) 0 10)) 0 1 0 2 (by omega) (by omega)) kvX10_ends kiX10_ends kl_X10_85 (q0 := 0) rfl rfl (As := [.int (zI 4), .int (zI 0), .int (zI 1), .int (zI 0), .int (zI 2)]) rfl rfl rfl dX10_charge_15 18 rfl (k' := 0) (n' := 0) rfl rfl (fsI (fun q q1 q2 => (Or.inl (fsH (by omega) (by omega))))) h_mo (fun rv H3 lo3 hM hF hpo => ?_)
  obtain ⟨rfl, hw_0⟩ := hpo
  have h_mo : PR E b (modelW E b (updC (updC mo 0 (updZ (mo 0) 0 2)) 1 (cpG ((cpG ((mo 1)) 0 10)) 10 0))) H3 := hw_0
  show V p l e (rmL 3 0 0) s m args below meth cd Q 3 H3 lo3 0 0 18 [(0, .ref b), (1, .int (zI d)), (2, .int (zI o))] [.int (zI 0)]
  subst hQ; exact m_iret X hr hlk hM dX10_charge_18 rfl ⟨(cpG ((cpG ((mo 1)) 0 10)) 10 0), rfl, (by exact RelM.back hRM (fun i hi => rfl) s1), h_mo⟩
set_option maxHeartbeats 4000000 in
set_option maxRecDepth 20000 in
theorem c_X10_addWitness_ok (l : Launch) (E : Nat → Nat → Nat) (b : Nat) (mo : Nat → Int → Int) (co : Nat → Int → Int) (cv : Nat → Int → Int) (hc : Nat → Nat → Int → Int) (nx : Int) (sz : Int) (hs : Int) (x : Int) (hO : OkC co) (hI : TsI co) (hRM : RelM co cv hc nx sz hs (mo 1)) (hch : mo 0 2 = sz) (n0 : 0 ≤ nx) (n1 : nx < 8) (s0 : 0 ≤ sz) (s1 : sz ≤ 8) (gx : Rg x) (hf : flC co 1 x 0 0 = 0) (hO2 : OkC (opC co 1 x 0 0 0)) : Mu l yX10_addWitness cX10_addWitness 2 (some .int) 2 0 0 E [(b, 5)] [.ref b, .int (zI x)] (fun H => PR E b (modelW E b mo) H) (fun rv H => ∃ g2 : Int → Int, ∃ q4 : Int, rv = some (.int (zI (opV co 1 x 0 0 0))) ∧ RelM (opC co 1 x 0 0 0) (cv) (fun j => if j = nx.toNat then co else hc j) (if nx < 7 then nx + 1 else 0) (min (sz + 1) 8) (hs) g2 ∧ PR E b (modelW E b (updC (updC mo 0 (updZ (updZ (updZ (mo 0) 0 0) 2 (min (sz + 1) 8)) 4 q4)) 1 g2)) H) := by
  refine Mu.start (own := RX10) rfl (by decide +kernel) (Nat.le_of_ble_eq_true rfl) ?_
  intro p e s m below meth cd args Q hQ X hr hlk hnm hM hPr
  have h_mo := hPr
  have hb0 := hO.b0
  have hbw := hO.bw
  refine v_aload_n X dX10_addWitness_0 1 rfl 0 rfl ?_
  refine v_muV X hM (h_mo.1) (c_X10_begins l E b mo) kvX10_begins kiX10_begins kl_X10_79 (q0 := 0) rfl rfl (As := []) rfl rfl rfl dX10_addWitness_1 4 rfl (k' := 0) (n' := 0) rfl rfl (fsI (fun q q1 q2 => (Or.inl (fsH (by omega) (by omega))))) h_mo (fun rv H1 lo1 hM hF hpo => ?_)
  obtain ⟨rfl, hw_0⟩ := hpo
  have h_mo : PR E b (modelW E b (updC mo 1 (cpG ((mo 1)) 0 10))) H1 := hw_0
  show V p l e (rmL 2 0 0) s m args below meth cd Q 2 H1 lo1 0 0 4 [(0, .ref b), (1, .int (zI x))] []
  have hR1 : RelC co (cpG (mo 1) 0 10) := hRM.1.2.of_eq hO (fun i a b => cpG_out (by omega))
  refine v_aload_n X dX10_addWitness_4 5 rfl 0 rfl ?_
  refine v_aload_n X dX10_addWitness_5 6 rfl 0 rfl ?_
  refine v_iload_n X dX10_addWitness_6 7 rfl 1 rfl ?_
  refine v_muV X hM (h_mo.1) (c_X10_registers_ok l E b (updC mo 1 (cpG ((mo 1)) 0 10)) co x hO hR1 hI gx hf) kvX10_registers kiX10_registers kl_X10_89 (q0 := 0) rfl rfl (As := [.int (zI x)]) rfl rfl rfl dX10_addWitness_7 10 rfl (k' := 0) (n' := 0) rfl rfl (fsI (fun q q1 q2 => (Or.inl (fsH (by omega) (by omega))))) h_mo (fun rv H2 lo2 hM hF hpo => ?_)
  obtain ⟨g1_3, rfl, hp_f_4, hp_f_5, hw_0⟩ := hpo
  have h_mo : PR E b (modelW E b (updC (updC mo 0 (updZ (mo 0) 4 (opV co 1 x 0 0 0))) 1 g1_3)) H2 := hw_0
  show V p l e (rmL 2 0 0) s m args below meth cd Q 2 H2 lo2 0 0 10 [(0, .ref b), (1, .int (zI x))] [.int (zI 0), .ref b]
  refine v_iconst X dX10_addWitness_10 11 rfl ?_
  refine v_iconst X dX10_addWitness_11 12 rfl ?_
  refine v_iconst X dX10_addWitness_12 13 rfl ?_
  refine v_iconst X dX10_addWitness_13 14 rfl ?_
  refine v_muV X hM (h_mo.1) (c_X10_ends_0 l E b (updC (updC mo 0 (updZ (mo 0) 4 (opV co 1 x 0 0 0))) 1 g1_3) 0 1 0 2 sz hch s0 s1) kvX10_ends kiX10_ends kl_X10_85 (q0 := 0) rfl rfl (As := [.int (zI 0), .int (zI 0), .int (zI 1), .int (zI 0), .int (zI 2)]) rfl rfl rfl dX10_addWitness_14 17 rfl (k' := 0) (n' := 0) rfl rfl (fsI (fun q q1 q2 => (Or.inl (fsH (by omega) (by omega))))) h_mo (fun rv H6 lo6 hM hF hpo => ?_)
  obtain ⟨rfl, hw_0⟩ := hpo
  have h_mo : PR E b (modelW E b (updC (updC mo 0 (updZ (updZ (updZ (mo 0) 0 0) 2 (min (sz + 1) 8)) 4 (opV co 1 x 0 0 0))) 1 (endG (g1_3) sz))) H6 := hw_0
  show V p l e (rmL 2 0 0) s m args below meth cd Q 2 H6 lo6 0 0 17 [(0, .ref b), (1, .int (zI x))] [.int (zI (opV co 1 x 0 0 0))]
  have hb_7 := hO.b1 x
  subst hQ; exact m_iret X hr hlk hM dX10_addWitness_17 rfl ⟨(endG (g1_3) sz), (opV co 1 x 0 0 0), rfl, (by exact RelM.push hRM ⟨hO2, hp_f_4⟩ hp_f_5 n0 n1 s0 s1), h_mo⟩
set_option maxHeartbeats 4000000 in
set_option maxRecDepth 20000 in
theorem c_X10_addWitness_f2 (l : Launch) (E : Nat → Nat → Nat) (b : Nat) (mo : Nat → Int → Int) (co : Nat → Int → Int) (cv : Nat → Int → Int) (hc : Nat → Nat → Int → Int) (nx : Int) (sz : Int) (hs : Int) (x : Int) (hO : OkC co) (hI : TsI co) (hRM : RelM co cv hc nx sz hs (mo 1)) (hch : mo 0 2 = sz) (n0 : 0 ≤ nx) (n1 : nx < 8) (s0 : 0 ≤ sz) (s1 : sz ≤ 8) (gx : Rg x) (hf : flC co 1 x 0 0 = 2) : Mu l yX10_addWitness cX10_addWitness 2 (some .int) 2 0 0 E [(b, 5)] [.ref b, .int (zI x)] (fun H => PR E b (modelW E b mo) H) (fun rv H => ∃ g2 : Int → Int, rv = some (.int (zI 0)) ∧ RelM (co) (cv) (hc) (nx) (sz) (hs) g2 ∧ PR E b (modelW E b (updC (updC mo 0 (updZ (mo 0) 0 1)) 1 g2)) H) := by
  refine Mu.start (own := RX10) rfl (by decide +kernel) (Nat.le_of_ble_eq_true rfl) ?_
  intro p e s m below meth cd args Q hQ X hr hlk hnm hM hPr
  have h_mo := hPr
  have hb0 := hO.b0
  have hbw := hO.bw
  refine v_aload_n X dX10_addWitness_0 1 rfl 0 rfl ?_
  refine v_muV X hM (h_mo.1) (c_X10_begins l E b mo) kvX10_begins kiX10_begins kl_X10_79 (q0 := 0) rfl rfl (As := []) rfl rfl rfl dX10_addWitness_1 4 rfl (k' := 0) (n' := 0) rfl rfl (fsI (fun q q1 q2 => (Or.inl (fsH (by omega) (by omega))))) h_mo (fun rv H1 lo1 hM hF hpo => ?_)
  obtain ⟨rfl, hw_0⟩ := hpo
  have h_mo : PR E b (modelW E b (updC mo 1 (cpG ((mo 1)) 0 10))) H1 := hw_0
  show V p l e (rmL 2 0 0) s m args below meth cd Q 2 H1 lo1 0 0 4 [(0, .ref b), (1, .int (zI x))] []
  have hR1 : RelC co (cpG (mo 1) 0 10) := hRM.1.2.of_eq hO (fun i a b => cpG_out (by omega))
  refine v_aload_n X dX10_addWitness_4 5 rfl 0 rfl ?_
  refine v_aload_n X dX10_addWitness_5 6 rfl 0 rfl ?_
  refine v_iload_n X dX10_addWitness_6 7 rfl 1 rfl ?_
  refine v_muV X hM (h_mo.1) (c_X10_registers_f2 l E b (updC mo 1 (cpG ((mo 1)) 0 10)) co x hO hR1 hI gx hf) kvX10_registers kiX10_registers kl_X10_89 (q0 := 0) rfl rfl (As := [.int (zI x)]) rfl rfl rfl dX10_addWitness_7 10 rfl (k' := 0) (n' := 0) rfl rfl (fun q hq => hq.elim) h_mo (fun rv H2 lo2 hM hF hpo => ?_)
  subst hpo
  replace h_mo := h_mo.kept hF 5 rfl (fun q _ _ h => h.elim)
  show V p l e (rmL 2 0 0) s m args below meth cd Q 2 H2 lo2 0 0 10 [(0, .ref b), (1, .int (zI x))] [.int (zI 2), .ref b]
  refine v_iconst X dX10_addWitness_10 11 rfl ?_
  refine v_iconst X dX10_addWitness_11 12 rfl ?_
  refine v_iconst X dX10_addWitness_12 13 rfl ?_
  refine v_iconst X dX10_addWitness_13 14 rfl ?_
  refine v_muV X hM (h_mo.1) (c_X10_ends_2 l E b (updC mo 1 (cpG ((mo 1)) 0 10)) 0 1 0 2 (by omega) (by omega)) kvX10_ends kiX10_ends kl_X10_85 (q0 := 0) rfl rfl (As := [.int (zI 2), .int (zI 0), .int (zI 1), .int (zI 0), .int (zI 2)]) rfl rfl rfl dX10_addWitness_14 17 rfl (k' := 0) (n' := 0) rfl rfl (fsI (fun q q1 q2 => (Or.inl (fsH (by omega) (by omega))))) h_mo (fun rv H3 lo3 hM hF hpo => ?_)
  obtain ⟨rfl, hw_0⟩ := hpo
  have h_mo : PR E b (modelW E b (updC (updC mo 0 (updZ (mo 0) 0 1)) 1 (cpG ((cpG ((mo 1)) 0 10)) 10 0))) H3 := hw_0
  show V p l e (rmL 2 0 0) s m args below meth cd Q 2 H3 lo3 0 0 17 [(0, .ref b), (1, .int (zI x))] [.int (zI 0)]
  subst hQ; exact m_iret X hr hlk hM dX10_addWitness_17 rfl ⟨(cpG ((cpG ((mo 1)) 0 10)) 10 0), rfl, (by exact RelM.back hRM (fun i hi => rfl) s1), h_mo⟩
set_option maxHeartbeats 4000000 in
set_option maxRecDepth 20000 in
theorem c_X10_addWitness_f4 (l : Launch) (E : Nat → Nat → Nat) (b : Nat) (mo : Nat → Int → Int) (co : Nat → Int → Int) (cv : Nat → Int → Int) (hc : Nat → Nat → Int → Int) (nx : Int) (sz : Int) (hs : Int) (x : Int) (hO : OkC co) (hI : TsI co) (hRM : RelM co cv hc nx sz hs (mo 1)) (hch : mo 0 2 = sz) (n0 : 0 ≤ nx) (n1 : nx < 8) (s0 : 0 ≤ sz) (s1 : sz ≤ 8) (gx : Rg x) (hf : flC co 1 x 0 0 = 4) : Mu l yX10_addWitness cX10_addWitness 2 (some .int) 2 0 0 E [(b, 5)] [.ref b, .int (zI x)] (fun H => PR E b (modelW E b mo) H) (fun rv H => ∃ g2 : Int → Int, rv = some (.int (zI 0)) ∧ RelM (co) (cv) (hc) (nx) (sz) (hs) g2 ∧ PR E b (modelW E b (updC (updC mo 0 (updZ (mo 0) 0 2)) 1 g2)) H) := by
  refine Mu.start (own := RX10) rfl (by decide +kernel) (Nat.le_of_ble_eq_true rfl) ?_
  intro p e s m below meth cd args Q hQ X hr hlk hnm hM hPr
  have h_mo := hPr
  have hb0 := hO.b0
  have hbw := hO.bw
  refine v_aload_n X dX10_addWitness_0 1 rfl 0 rfl ?_
  refine v_muV X hM (h_mo.1) (c_X10_begins l E b mo) kvX10_begins kiX10_begins kl_X10_79 (q0 := 0) rfl rfl (As := []) rfl rfl rfl dX10_addWitness_1 4 rfl (k' := 0) (n' := 0) rfl rfl (fsI (fun q q1 q2 => (Or.inl (fsH (by omega) (by omega))))) h_mo (fun rv H1 lo1 hM hF hpo => ?_)
  obtain ⟨rfl, hw_0⟩ := hpo
  have h_mo : PR E b (modelW E b (updC mo 1 (cpG ((mo 1)) 0 10))) H1 := hw_0
  show V p l e (rmL 2 0 0) s m args below meth cd Q 2 H1 lo1 0 0 4 [(0, .ref b), (1, .int (zI x))] []
  have hR1 : RelC co (cpG (mo 1) 0 10) := hRM.1.2.of_eq hO (fun i a b => cpG_out (by omega))
  refine v_aload_n X dX10_addWitness_4 5 rfl 0 rfl ?_
  refine v_aload_n X dX10_addWitness_5 6 rfl 0 rfl ?_
  refine v_iload_n X dX10_addWitness_6 7 rfl 1 rfl ?_
  refine v_muV X hM (h_mo.1) (c_X10_registers_f4 l E b (updC mo 1 (cpG ((mo 1)) 0 10)) co x hO hR1 hI gx hf) kvX10_registers kiX10_registers kl_X10_89 (q0 := 0) rfl rfl (As := [.int (zI x)]) rfl rfl rfl dX10_addWitness_7 10 rfl (k' := 0) (n' := 0) rfl rfl (fun q hq => hq.elim) h_mo (fun rv H2 lo2 hM hF hpo => ?_)
  subst hpo
  replace h_mo := h_mo.kept hF 5 rfl (fun q _ _ h => h.elim)
  show V p l e (rmL 2 0 0) s m args below meth cd Q 2 H2 lo2 0 0 10 [(0, .ref b), (1, .int (zI x))] [.int (zI 4), .ref b]
  refine v_iconst X dX10_addWitness_10 11 rfl ?_
  refine v_iconst X dX10_addWitness_11 12 rfl ?_
  refine v_iconst X dX10_addWitness_12 13 rfl ?_
  refine v_iconst X dX10_addWitness_13 14 rfl ?_
  refine v_muV X hM (h_mo.1) (c_X10_ends_4 l E b (updC mo 1 (cpG ((mo 1)) 0 10)) 0 1 0 2 (by omega) (by omega)) kvX10_ends kiX10_ends kl_X10_85 (q0 := 0) rfl rfl (As := [.int (zI 4), .int (zI 0), .int (zI 1), .int (zI 0), .int (zI 2)]) rfl rfl rfl dX10_addWitness_14 17 rfl (k' := 0) (n' := 0) rfl rfl (fsI (fun q q1 q2 => (Or.inl (fsH (by omega) (by omega))))) h_mo (fun rv H3 lo3 hM hF hpo => ?_)
  obtain ⟨rfl, hw_0⟩ := hpo
  have h_mo : PR E b (modelW E b (updC (updC mo 0 (updZ (mo 0) 0 2)) 1 (cpG ((cpG ((mo 1)) 0 10)) 10 0))) H3 := hw_0
  show V p l e (rmL 2 0 0) s m args below meth cd Q 2 H3 lo3 0 0 17 [(0, .ref b), (1, .int (zI x))] [.int (zI 0)]
  subst hQ; exact m_iret X hr hlk hM dX10_addWitness_17 rfl ⟨(cpG ((cpG ((mo 1)) 0 10)) 10 0), rfl, (by exact RelM.back hRM (fun i hi => rfl) s1), h_mo⟩
set_option maxHeartbeats 4000000 in
set_option maxRecDepth 20000 in
theorem c_X10_testify_ok (l : Launch) (E : Nat → Nat → Nat) (b : Nat) (mo : Nat → Int → Int) (co : Nat → Int → Int) (cv : Nat → Int → Int) (hc : Nat → Nat → Int → Int) (nx : Int) (sz : Int) (hs : Int) (k : Int) (w : Int) (f : Int) (z : Int) (hO : OkC co) (hI : TsI co) (hRM : RelM co cv hc nx sz hs (mo 1)) (hch : mo 0 2 = sz) (n0 : 0 ≤ nx) (n1 : nx < 8) (s0 : 0 ≤ sz) (s1 : sz ≤ 8) (gk : Rg k) (gw : Rg w) (gz : Rg z) (gf : 0 ≤ f ∧ f ≤ 1) (hf : flC co 2 k w z = 0) (hO2 : OkC (opC co 2 k w f z)) : Mu l yX10_testify cX10_testify 5 (some .int) 3 0 0 E [(b, 5)] [.ref b, .int (zI k), .int (zI w), .int (zI f), .int (zI z)] (fun H => PR E b (modelW E b mo) H) (fun rv H => ∃ g2 : Int → Int, ∃ q4 : Int, rv = some (.int (zI (opV co 2 k w f z))) ∧ RelM (opC co 2 k w f z) (cv) (fun j => if j = nx.toNat then co else hc j) (if nx < 7 then nx + 1 else 0) (min (sz + 1) 8) (hs) g2 ∧ PR E b (modelW E b (updC (updC mo 0 (updZ (updZ (updZ (mo 0) 0 0) 2 (min (sz + 1) 8)) 4 q4)) 1 g2)) H) := by
  refine Mu.start (own := RX10) rfl (by decide +kernel) (Nat.le_of_ble_eq_true rfl) ?_
  intro p e s m below meth cd args Q hQ X hr hlk hnm hM hPr
  have h_mo := hPr
  have hb0 := hO.b0
  have hbw := hO.bw
  refine v_aload_n X dX10_testify_0 1 rfl 0 rfl ?_
  refine v_muV X hM (h_mo.1) (c_X10_begins l E b mo) kvX10_begins kiX10_begins kl_X10_79 (q0 := 0) rfl rfl (As := []) rfl rfl rfl dX10_testify_1 4 rfl (k' := 0) (n' := 0) rfl rfl (fsI (fun q q1 q2 => (Or.inl (fsH (by omega) (by omega))))) h_mo (fun rv H1 lo1 hM hF hpo => ?_)
  obtain ⟨rfl, hw_0⟩ := hpo
  have h_mo : PR E b (modelW E b (updC mo 1 (cpG ((mo 1)) 0 10))) H1 := hw_0
  show V p l e (rmL 3 0 0) s m args below meth cd Q 5 H1 lo1 0 0 4 [(0, .ref b), (1, .int (zI k)), (2, .int (zI w)), (3, .int (zI f)), (4, .int (zI z))] []
  have hR1 : RelC co (cpG (mo 1) 0 10) := hRM.1.2.of_eq hO (fun i a b => cpG_out (by omega))
  refine v_aload_n X dX10_testify_4 5 rfl 0 rfl ?_
  refine v_aload_n X dX10_testify_5 6 rfl 0 rfl ?_
  refine v_iload_n X dX10_testify_6 7 rfl 1 rfl ?_
  refine v_iload_n X dX10_testify_7 8 rfl 2 rfl ?_
  refine v_iload_n X dX10_testify_8 9 rfl 3 rfl ?_
  refine v_if_eq X (by omega) dX10_testify_9 12 16 rfl (by decide) (fun c_2 => ?_) (fun c_2 => ?_)
  · skip
    refine v_iconst X dX10_testify_16 17 rfl ?_
    refine v_iload X dX10_testify_17 19 rfl 4 rfl ?_
    refine v_muV X hM (h_mo.1) (c_X10_testifies_ok l E b (updC mo 1 (cpG ((mo 1)) 0 10)) co k w 0 z hO hR1 hI gk gw gz (by omega) hf) kvX10_testifies kiX10_testifies kl_X10_101 (q0 := 0) rfl rfl (As := [.int (zI k), .int (zI w), .int (zI 0), .int (zI z)]) rfl rfl rfl dX10_testify_19 22 rfl (k' := 0) (n' := 0) rfl rfl (fsI (fun q q1 q2 => (Or.inl (fsH (by omega) (by omega))))) h_mo (fun rv H3 lo3 hM hF hpo => ?_)
    obtain ⟨g1_4, rfl, hp_f_5, hp_f_6, hw_0⟩ := hpo
    have h_mo : PR E b (modelW E b (updC (updC mo 0 (updZ (mo 0) 4 (opV co 2 k w 0 z))) 1 g1_4)) H3 := hw_0
    show V p l e (rmL 3 0 0) s m args below meth cd Q 5 H3 lo3 0 0 22 [(0, .ref b), (1, .int (zI k)), (2, .int (zI w)), (3, .int (zI f)), (4, .int (zI z))] [.int (zI 0), .ref b]
    refine v_iconst X dX10_testify_22 23 rfl ?_
    refine v_iconst X dX10_testify_23 24 rfl ?_
    refine v_iconst X dX10_testify_24 25 rfl ?_
    refine v_iconst X dX10_testify_25 26 rfl ?_
    refine v_muV X hM (h_mo.1) (c_X10_ends_0 l E b (updC (updC mo 0 (updZ (mo 0) 4 (opV co 2 k w 0 z))) 1 g1_4) 1 2 0 3 sz hch s0 s1) kvX10_ends kiX10_ends kl_X10_85 (q0 := 0) rfl rfl (As := [.int (zI 0), .int (zI 1), .int (zI 2), .int (zI 0), .int (zI 3)]) rfl rfl rfl dX10_testify_26 29 rfl (k' := 0) (n' := 0) rfl rfl (fsI (fun q q1 q2 => (Or.inl (fsH (by omega) (by omega))))) h_mo (fun rv H7 lo7 hM hF hpo => ?_)
    obtain ⟨rfl, hw_0⟩ := hpo
    have h_mo : PR E b (modelW E b (updC (updC mo 0 (updZ (updZ (updZ (mo 0) 0 0) 2 (min (sz + 1) 8)) 4 (opV co 2 k w 0 z))) 1 (endG (g1_4) sz))) H7 := hw_0
    show V p l e (rmL 3 0 0) s m args below meth cd Q 5 H7 lo7 0 0 29 [(0, .ref b), (1, .int (zI k)), (2, .int (zI w)), (3, .int (zI f)), (4, .int (zI z))] [.int (zI (opV co 2 k w 0 z))]
    have hb_8 := hO.b2 k
    subst hQ; exact m_iret X hr hlk hM dX10_testify_29 rfl ⟨(endG (g1_4) sz), (opV co 2 k w 0 z), (sv (by first | rfl | omega | rw [show f = 1 by omega] | rw [show f = 0 by omega])), (by first | (have e : f = 1 := (by omega); subst e; exact RelM.push hRM ⟨hO2, hp_f_5⟩ hp_f_6 n0 n1 s0 s1) | (have e : f = 0 := (by omega); subst e; exact RelM.push hRM ⟨hO2, hp_f_5⟩ hp_f_6 n0 n1 s0 s1)), h_mo⟩
  · skip
    refine v_iconst X dX10_testify_12 13 rfl ?_
    refine v_goto X dX10_testify_13 17 (by decide) ?_
    refine v_iload X dX10_testify_17 19 rfl 4 rfl ?_
    refine v_muV X hM (h_mo.1) (c_X10_testifies_ok l E b (updC mo 1 (cpG ((mo 1)) 0 10)) co k w 1 z hO hR1 hI gk gw gz (by omega) hf) kvX10_testifies kiX10_testifies kl_X10_101 (q0 := 0) rfl rfl (As := [.int (zI k), .int (zI w), .int (zI 1), .int (zI z)]) rfl rfl rfl dX10_testify_19 22 rfl (k' := 0) (n' := 0) rfl rfl (fsI (fun q q1 q2 => (Or.inl (fsH (by omega) (by omega))))) h_mo (fun rv H9 lo9 hM hF hpo => ?_)
    obtain ⟨g1_10, rfl, hp_f_11, hp_f_12, hw_0⟩ := hpo
    have h_mo : PR E b (modelW E b (updC (updC mo 0 (updZ (mo 0) 4 (opV co 2 k w 1 z))) 1 g1_10)) H9 := hw_0
    show V p l e (rmL 3 0 0) s m args below meth cd Q 5 H9 lo9 0 0 22 [(0, .ref b), (1, .int (zI k)), (2, .int (zI w)), (3, .int (zI f)), (4, .int (zI z))] [.int (zI 0), .ref b]
    refine v_iconst X dX10_testify_22 23 rfl ?_
    refine v_iconst X dX10_testify_23 24 rfl ?_
    refine v_iconst X dX10_testify_24 25 rfl ?_
    refine v_iconst X dX10_testify_25 26 rfl ?_
    refine v_muV X hM (h_mo.1) (c_X10_ends_0 l E b (updC (updC mo 0 (updZ (mo 0) 4 (opV co 2 k w 1 z))) 1 g1_10) 1 2 0 3 sz hch s0 s1) kvX10_ends kiX10_ends kl_X10_85 (q0 := 0) rfl rfl (As := [.int (zI 0), .int (zI 1), .int (zI 2), .int (zI 0), .int (zI 3)]) rfl rfl rfl dX10_testify_26 29 rfl (k' := 0) (n' := 0) rfl rfl (fsI (fun q q1 q2 => (Or.inl (fsH (by omega) (by omega))))) h_mo (fun rv H13 lo13 hM hF hpo => ?_)
    obtain ⟨rfl, hw_0⟩ := hpo
    have h_mo : PR E b (modelW E b (updC (updC mo 0 (updZ (updZ (updZ (mo 0) 0 0) 2 (min (sz + 1) 8)) 4 (opV co 2 k w 1 z))) 1 (endG (g1_10) sz))) H13 := hw_0
    show V p l e (rmL 3 0 0) s m args below meth cd Q 5 H13 lo13 0 0 29 [(0, .ref b), (1, .int (zI k)), (2, .int (zI w)), (3, .int (zI f)), (4, .int (zI z))] [.int (zI (opV co 2 k w 1 z))]
    have hb_14 := hO.b2 k
    subst hQ; exact m_iret X hr hlk hM dX10_testify_29 rfl ⟨(endG (g1_10) sz), (opV co 2 k w 1 z), (sv (by first | rfl | omega | rw [show f = 1 by omega] | rw [show f = 0 by omega])), (by first | (have e : f = 1 := (by omega); subst e; exact RelM.push hRM ⟨hO2, hp_f_11⟩ hp_f_12 n0 n1 s0 s1) | (have e : f = 0 := (by omega); subst e; exact RelM.push hRM ⟨hO2, hp_f_11⟩ hp_f_12 n0 n1 s0 s1)), h_mo⟩
set_option maxHeartbeats 4000000 in
set_option maxRecDepth 20000 in
theorem c_X10_testify_f1 (l : Launch) (E : Nat → Nat → Nat) (b : Nat) (mo : Nat → Int → Int) (co : Nat → Int → Int) (cv : Nat → Int → Int) (hc : Nat → Nat → Int → Int) (nx : Int) (sz : Int) (hs : Int) (k : Int) (w : Int) (f : Int) (z : Int) (hO : OkC co) (hI : TsI co) (hRM : RelM co cv hc nx sz hs (mo 1)) (hch : mo 0 2 = sz) (n0 : 0 ≤ nx) (n1 : nx < 8) (s0 : 0 ≤ sz) (s1 : sz ≤ 8) (gk : Rg k) (gw : Rg w) (gz : Rg z) (gf : 0 ≤ f ∧ f ≤ 1) (hf : flC co 2 k w z = 1) : Mu l yX10_testify cX10_testify 5 (some .int) 3 0 0 E [(b, 5)] [.ref b, .int (zI k), .int (zI w), .int (zI f), .int (zI z)] (fun H => PR E b (modelW E b mo) H) (fun rv H => ∃ g2 : Int → Int, rv = some (.int (zI 0)) ∧ RelM (co) (cv) (hc) (nx) (sz) (hs) g2 ∧ PR E b (modelW E b (updC (updC mo 0 (updZ (mo 0) 0 1)) 1 g2)) H) := by
  refine Mu.start (own := RX10) rfl (by decide +kernel) (Nat.le_of_ble_eq_true rfl) ?_
  intro p e s m below meth cd args Q hQ X hr hlk hnm hM hPr
  have h_mo := hPr
  have hb0 := hO.b0
  have hbw := hO.bw
  refine v_aload_n X dX10_testify_0 1 rfl 0 rfl ?_
  refine v_muV X hM (h_mo.1) (c_X10_begins l E b mo) kvX10_begins kiX10_begins kl_X10_79 (q0 := 0) rfl rfl (As := []) rfl rfl rfl dX10_testify_1 4 rfl (k' := 0) (n' := 0) rfl rfl (fsI (fun q q1 q2 => (Or.inl (fsH (by omega) (by omega))))) h_mo (fun rv H1 lo1 hM hF hpo => ?_)
  obtain ⟨rfl, hw_0⟩ := hpo
  have h_mo : PR E b (modelW E b (updC mo 1 (cpG ((mo 1)) 0 10))) H1 := hw_0
  show V p l e (rmL 3 0 0) s m args below meth cd Q 5 H1 lo1 0 0 4 [(0, .ref b), (1, .int (zI k)), (2, .int (zI w)), (3, .int (zI f)), (4, .int (zI z))] []
  have hR1 : RelC co (cpG (mo 1) 0 10) := hRM.1.2.of_eq hO (fun i a b => cpG_out (by omega))
  refine v_aload_n X dX10_testify_4 5 rfl 0 rfl ?_
  refine v_aload_n X dX10_testify_5 6 rfl 0 rfl ?_
  refine v_iload_n X dX10_testify_6 7 rfl 1 rfl ?_
  refine v_iload_n X dX10_testify_7 8 rfl 2 rfl ?_
  refine v_iload_n X dX10_testify_8 9 rfl 3 rfl ?_
  refine v_if_eq X (by omega) dX10_testify_9 12 16 rfl (by decide) (fun c_2 => ?_) (fun c_2 => ?_)
  · skip
    refine v_iconst X dX10_testify_16 17 rfl ?_
    refine v_iload X dX10_testify_17 19 rfl 4 rfl ?_
    refine v_muV X hM (h_mo.1) (c_X10_testifies_f1 l E b (updC mo 1 (cpG ((mo 1)) 0 10)) co k w 0 z hO hR1 hI gk gw (by omega) gz hf) kvX10_testifies kiX10_testifies kl_X10_101 (q0 := 0) rfl rfl (As := [.int (zI k), .int (zI w), .int (zI 0), .int (zI z)]) rfl rfl rfl dX10_testify_19 22 rfl (k' := 0) (n' := 0) rfl rfl (fun q hq => hq.elim) h_mo (fun rv H3 lo3 hM hF hpo => ?_)
    subst hpo
    replace h_mo := h_mo.kept hF 5 rfl (fun q _ _ h => h.elim)
    show V p l e (rmL 3 0 0) s m args below meth cd Q 5 H3 lo3 0 0 22 [(0, .ref b), (1, .int (zI k)), (2, .int (zI w)), (3, .int (zI f)), (4, .int (zI z))] [.int (zI 1), .ref b]
    refine v_iconst X dX10_testify_22 23 rfl ?_
    refine v_iconst X dX10_testify_23 24 rfl ?_
    refine v_iconst X dX10_testify_24 25 rfl ?_
    refine v_iconst X dX10_testify_25 26 rfl ?_
    refine v_muV X hM (h_mo.1) (c_X10_ends_1 l E b (updC mo 1 (cpG ((mo 1)) 0 10)) 1 2 0 3 (by omega) (by omega)) kvX10_ends kiX10_ends kl_X10_85 (q0 := 0) rfl rfl (As := [.int (zI 1), .int (zI 1), .int (zI 2), .int (zI 0), .int (zI 3)]) rfl rfl rfl dX10_testify_26 29 rfl (k' := 0) (n' := 0) rfl rfl (fsI (fun q q1 q2 => (Or.inl (fsH (by omega) (by omega))))) h_mo (fun rv H4 lo4 hM hF hpo => ?_)
    obtain ⟨rfl, hw_0⟩ := hpo
    have h_mo : PR E b (modelW E b (updC (updC mo 0 (updZ (mo 0) 0 1)) 1 (cpG ((cpG ((mo 1)) 0 10)) 10 0))) H4 := hw_0
    show V p l e (rmL 3 0 0) s m args below meth cd Q 5 H4 lo4 0 0 29 [(0, .ref b), (1, .int (zI k)), (2, .int (zI w)), (3, .int (zI f)), (4, .int (zI z))] [.int (zI 0)]
    subst hQ; exact m_iret X hr hlk hM dX10_testify_29 rfl ⟨(cpG ((cpG ((mo 1)) 0 10)) 10 0), rfl, (by exact RelM.back hRM (fun i hi => rfl) s1), h_mo⟩
  · skip
    refine v_iconst X dX10_testify_12 13 rfl ?_
    refine v_goto X dX10_testify_13 17 (by decide) ?_
    refine v_iload X dX10_testify_17 19 rfl 4 rfl ?_
    refine v_muV X hM (h_mo.1) (c_X10_testifies_f1 l E b (updC mo 1 (cpG ((mo 1)) 0 10)) co k w 1 z hO hR1 hI gk gw (by omega) gz hf) kvX10_testifies kiX10_testifies kl_X10_101 (q0 := 0) rfl rfl (As := [.int (zI k), .int (zI w), .int (zI 1), .int (zI z)]) rfl rfl rfl dX10_testify_19 22 rfl (k' := 0) (n' := 0) rfl rfl (fun q hq => hq.elim) h_mo (fun rv H5 lo5 hM hF hpo => ?_)
    subst hpo
    replace h_mo := h_mo.kept hF 5 rfl (fun q _ _ h => h.elim)
    show V p l e (rmL 3 0 0) s m args below meth cd Q 5 H5 lo5 0 0 22 [(0, .ref b), (1, .int (zI k)), (2, .int (zI w)), (3, .int (zI f)), (4, .int (zI z))] [.int (zI 1), .ref b]
    refine v_iconst X dX10_testify_22 23 rfl ?_
    refine v_iconst X dX10_testify_23 24 rfl ?_
    refine v_iconst X dX10_testify_24 25 rfl ?_
    refine v_iconst X dX10_testify_25 26 rfl ?_
    refine v_muV X hM (h_mo.1) (c_X10_ends_1 l E b (updC mo 1 (cpG ((mo 1)) 0 10)) 1 2 0 3 (by omega) (by omega)) kvX10_ends kiX10_ends kl_X10_85 (q0 := 0) rfl rfl (As := [.int (zI 1), .int (zI 1), .int (zI 2), .int (zI 0), .int (zI 3)]) rfl rfl rfl dX10_testify_26 29 rfl (k' := 0) (n' := 0) rfl rfl (fsI (fun q q1 q2 => (Or.inl (fsH (by omega) (by omega))))) h_mo (fun rv H6 lo6 hM hF hpo => ?_)
    obtain ⟨rfl, hw_0⟩ := hpo
    have h_mo : PR E b (modelW E b (updC (updC mo 0 (updZ (mo 0) 0 1)) 1 (cpG ((cpG ((mo 1)) 0 10)) 10 0))) H6 := hw_0
    show V p l e (rmL 3 0 0) s m args below meth cd Q 5 H6 lo6 0 0 29 [(0, .ref b), (1, .int (zI k)), (2, .int (zI w)), (3, .int (zI f)), (4, .int (zI z))] [.int (zI 0)]
    subst hQ; exact m_iret X hr hlk hM dX10_testify_29 rfl ⟨(cpG ((cpG ((mo 1)) 0 10)) 10 0), rfl, (by exact RelM.back hRM (fun i hi => rfl) s1), h_mo⟩
set_option maxHeartbeats 4000000 in
set_option maxRecDepth 20000 in
theorem c_X10_testify_f2 (l : Launch) (E : Nat → Nat → Nat) (b : Nat) (mo : Nat → Int → Int) (co : Nat → Int → Int) (cv : Nat → Int → Int) (hc : Nat → Nat → Int → Int) (nx : Int) (sz : Int) (hs : Int) (k : Int) (w : Int) (f : Int) (z : Int) (hO : OkC co) (hI : TsI co) (hRM : RelM co cv hc nx sz hs (mo 1)) (hch : mo 0 2 = sz) (n0 : 0 ≤ nx) (n1 : nx < 8) (s0 : 0 ≤ sz) (s1 : sz ≤ 8) (gk : Rg k) (gw : Rg w) (gz : Rg z) (gf : 0 ≤ f ∧ f ≤ 1) (hf : flC co 2 k w z = 2) : Mu l yX10_testify cX10_testify 5 (some .int) 3 0 0 E [(b, 5)] [.ref b, .int (zI k), .int (zI w), .int (zI f), .int (zI z)] (fun H => PR E b (modelW E b mo) H) (fun rv H => ∃ g2 : Int → Int, rv = some (.int (zI 0)) ∧ RelM (co) (cv) (hc) (nx) (sz) (hs) g2 ∧ PR E b (modelW E b (updC (updC mo 0 (updZ (mo 0) 0 2)) 1 g2)) H) := by
  refine Mu.start (own := RX10) rfl (by decide +kernel) (Nat.le_of_ble_eq_true rfl) ?_
  intro p e s m below meth cd args Q hQ X hr hlk hnm hM hPr
  have h_mo := hPr
  have hb0 := hO.b0
  have hbw := hO.bw
  refine v_aload_n X dX10_testify_0 1 rfl 0 rfl ?_
  refine v_muV X hM (h_mo.1) (c_X10_begins l E b mo) kvX10_begins kiX10_begins kl_X10_79 (q0 := 0) rfl rfl (As := []) rfl rfl rfl dX10_testify_1 4 rfl (k' := 0) (n' := 0) rfl rfl (fsI (fun q q1 q2 => (Or.inl (fsH (by omega) (by omega))))) h_mo (fun rv H1 lo1 hM hF hpo => ?_)
  obtain ⟨rfl, hw_0⟩ := hpo
  have h_mo : PR E b (modelW E b (updC mo 1 (cpG ((mo 1)) 0 10))) H1 := hw_0
  show V p l e (rmL 3 0 0) s m args below meth cd Q 5 H1 lo1 0 0 4 [(0, .ref b), (1, .int (zI k)), (2, .int (zI w)), (3, .int (zI f)), (4, .int (zI z))] []
  have hR1 : RelC co (cpG (mo 1) 0 10) := hRM.1.2.of_eq hO (fun i a b => cpG_out (by omega))
  refine v_aload_n X dX10_testify_4 5 rfl 0 rfl ?_
  refine v_aload_n X dX10_testify_5 6 rfl 0 rfl ?_
  refine v_iload_n X dX10_testify_6 7 rfl 1 rfl ?_
  refine v_iload_n X dX10_testify_7 8 rfl 2 rfl ?_
  refine v_iload_n X dX10_testify_8 9 rfl 3 rfl ?_
  refine v_if_eq X (by omega) dX10_testify_9 12 16 rfl (by decide) (fun c_2 => ?_) (fun c_2 => ?_)
  · skip
    refine v_iconst X dX10_testify_16 17 rfl ?_
    refine v_iload X dX10_testify_17 19 rfl 4 rfl ?_
    refine v_muV X hM (h_mo.1) (c_X10_testifies_f2 l E b (updC mo 1 (cpG ((mo 1)) 0 10)) co k w 0 z hO hR1 hI gk gw (by omega) gz hf) kvX10_testifies kiX10_testifies kl_X10_101 (q0 := 0) rfl rfl (As := [.int (zI k), .int (zI w), .int (zI 0), .int (zI z)]) rfl rfl rfl dX10_testify_19 22 rfl (k' := 0) (n' := 0) rfl rfl (fun q hq => hq.elim) h_mo (fun rv H3 lo3 hM hF hpo => ?_)
    subst hpo
    replace h_mo := h_mo.kept hF 5 rfl (fun q _ _ h => h.elim)
    show V p l e (rmL 3 0 0) s m args below meth cd Q 5 H3 lo3 0 0 22 [(0, .ref b), (1, .int (zI k)), (2, .int (zI w)), (3, .int (zI f)), (4, .int (zI z))] [.int (zI 2), .ref b]
    refine v_iconst X dX10_testify_22 23 rfl ?_
    refine v_iconst X dX10_testify_23 24 rfl ?_
    refine v_iconst X dX10_testify_24 25 rfl ?_
    refine v_iconst X dX10_testify_25 26 rfl ?_
    refine v_muV X hM (h_mo.1) (c_X10_ends_2 l E b (updC mo 1 (cpG ((mo 1)) 0 10)) 1 2 0 3 (by omega) (by omega)) kvX10_ends kiX10_ends kl_X10_85 (q0 := 0) rfl rfl (As := [.int (zI 2), .int (zI 1), .int (zI 2), .int (zI 0), .int (zI 3)]) rfl rfl rfl dX10_testify_26 29 rfl (k' := 0) (n' := 0) rfl rfl (fsI (fun q q1 q2 => (Or.inl (fsH (by omega) (by omega))))) h_mo (fun rv H4 lo4 hM hF hpo => ?_)
    obtain ⟨rfl, hw_0⟩ := hpo
    have h_mo : PR E b (modelW E b (updC (updC mo 0 (updZ (mo 0) 0 2)) 1 (cpG ((cpG ((mo 1)) 0 10)) 10 0))) H4 := hw_0
    show V p l e (rmL 3 0 0) s m args below meth cd Q 5 H4 lo4 0 0 29 [(0, .ref b), (1, .int (zI k)), (2, .int (zI w)), (3, .int (zI f)), (4, .int (zI z))] [.int (zI 0)]
    subst hQ; exact m_iret X hr hlk hM dX10_testify_29 rfl ⟨(cpG ((cpG ((mo 1)) 0 10)) 10 0), rfl, (by exact RelM.back hRM (fun i hi => rfl) s1), h_mo⟩
  · skip
    refine v_iconst X dX10_testify_12 13 rfl ?_
    refine v_goto X dX10_testify_13 17 (by decide) ?_
    refine v_iload X dX10_testify_17 19 rfl 4 rfl ?_
    refine v_muV X hM (h_mo.1) (c_X10_testifies_f2 l E b (updC mo 1 (cpG ((mo 1)) 0 10)) co k w 1 z hO hR1 hI gk gw (by omega) gz hf) kvX10_testifies kiX10_testifies kl_X10_101 (q0 := 0) rfl rfl (As := [.int (zI k), .int (zI w), .int (zI 1), .int (zI z)]) rfl rfl rfl dX10_testify_19 22 rfl (k' := 0) (n' := 0) rfl rfl (fun q hq => hq.elim) h_mo (fun rv H5 lo5 hM hF hpo => ?_)
    subst hpo
    replace h_mo := h_mo.kept hF 5 rfl (fun q _ _ h => h.elim)
    show V p l e (rmL 3 0 0) s m args below meth cd Q 5 H5 lo5 0 0 22 [(0, .ref b), (1, .int (zI k)), (2, .int (zI w)), (3, .int (zI f)), (4, .int (zI z))] [.int (zI 2), .ref b]
    refine v_iconst X dX10_testify_22 23 rfl ?_
    refine v_iconst X dX10_testify_23 24 rfl ?_
    refine v_iconst X dX10_testify_24 25 rfl ?_
    refine v_iconst X dX10_testify_25 26 rfl ?_
    refine v_muV X hM (h_mo.1) (c_X10_ends_2 l E b (updC mo 1 (cpG ((mo 1)) 0 10)) 1 2 0 3 (by omega) (by omega)) kvX10_ends kiX10_ends kl_X10_85 (q0 := 0) rfl rfl (As := [.int (zI 2), .int (zI 1), .int (zI 2), .int (zI 0), .int (zI 3)]) rfl rfl rfl dX10_testify_26 29 rfl (k' := 0) (n' := 0) rfl rfl (fsI (fun q q1 q2 => (Or.inl (fsH (by omega) (by omega))))) h_mo (fun rv H6 lo6 hM hF hpo => ?_)
    obtain ⟨rfl, hw_0⟩ := hpo
    have h_mo : PR E b (modelW E b (updC (updC mo 0 (updZ (mo 0) 0 2)) 1 (cpG ((cpG ((mo 1)) 0 10)) 10 0))) H6 := hw_0
    show V p l e (rmL 3 0 0) s m args below meth cd Q 5 H6 lo6 0 0 29 [(0, .ref b), (1, .int (zI k)), (2, .int (zI w)), (3, .int (zI f)), (4, .int (zI z))] [.int (zI 0)]
    subst hQ; exact m_iret X hr hlk hM dX10_testify_29 rfl ⟨(cpG ((cpG ((mo 1)) 0 10)) 10 0), rfl, (by exact RelM.back hRM (fun i hi => rfl) s1), h_mo⟩
set_option maxHeartbeats 4000000 in
set_option maxRecDepth 20000 in
theorem c_X10_testify_f4 (l : Launch) (E : Nat → Nat → Nat) (b : Nat) (mo : Nat → Int → Int) (co : Nat → Int → Int) (cv : Nat → Int → Int) (hc : Nat → Nat → Int → Int) (nx : Int) (sz : Int) (hs : Int) (k : Int) (w : Int) (f : Int) (z : Int) (hO : OkC co) (hI : TsI co) (hRM : RelM co cv hc nx sz hs (mo 1)) (hch : mo 0 2 = sz) (n0 : 0 ≤ nx) (n1 : nx < 8) (s0 : 0 ≤ sz) (s1 : sz ≤ 8) (gk : Rg k) (gw : Rg w) (gz : Rg z) (gf : 0 ≤ f ∧ f ≤ 1) (hf : flC co 2 k w z = 4) : Mu l yX10_testify cX10_testify 5 (some .int) 3 0 0 E [(b, 5)] [.ref b, .int (zI k), .int (zI w), .int (zI f), .int (zI z)] (fun H => PR E b (modelW E b mo) H) (fun rv H => ∃ g2 : Int → Int, rv = some (.int (zI 0)) ∧ RelM (co) (cv) (hc) (nx) (sz) (hs) g2 ∧ PR E b (modelW E b (updC (updC mo 0 (updZ (mo 0) 0 3)) 1 g2)) H) := by
  refine Mu.start (own := RX10) rfl (by decide +kernel) (Nat.le_of_ble_eq_true rfl) ?_
  intro p e s m below meth cd args Q hQ X hr hlk hnm hM hPr
  have h_mo := hPr
  have hb0 := hO.b0
  have hbw := hO.bw
  refine v_aload_n X dX10_testify_0 1 rfl 0 rfl ?_
  refine v_muV X hM (h_mo.1) (c_X10_begins l E b mo) kvX10_begins kiX10_begins kl_X10_79 (q0 := 0) rfl rfl (As := []) rfl rfl rfl dX10_testify_1 4 rfl (k' := 0) (n' := 0) rfl rfl (fsI (fun q q1 q2 => (Or.inl (fsH (by omega) (by omega))))) h_mo (fun rv H1 lo1 hM hF hpo => ?_)
  obtain ⟨rfl, hw_0⟩ := hpo
  have h_mo : PR E b (modelW E b (updC mo 1 (cpG ((mo 1)) 0 10))) H1 := hw_0
  show V p l e (rmL 3 0 0) s m args below meth cd Q 5 H1 lo1 0 0 4 [(0, .ref b), (1, .int (zI k)), (2, .int (zI w)), (3, .int (zI f)), (4, .int (zI z))] []
  have hR1 : RelC co (cpG (mo 1) 0 10) := hRM.1.2.of_eq hO (fun i a b => cpG_out (by omega))
  refine v_aload_n X dX10_testify_4 5 rfl 0 rfl ?_
  refine v_aload_n X dX10_testify_5 6 rfl 0 rfl ?_
  refine v_iload_n X dX10_testify_6 7 rfl 1 rfl ?_
  refine v_iload_n X dX10_testify_7 8 rfl 2 rfl ?_
  refine v_iload_n X dX10_testify_8 9 rfl 3 rfl ?_
  refine v_if_eq X (by omega) dX10_testify_9 12 16 rfl (by decide) (fun c_2 => ?_) (fun c_2 => ?_)
  · skip
    refine v_iconst X dX10_testify_16 17 rfl ?_
    refine v_iload X dX10_testify_17 19 rfl 4 rfl ?_
    refine v_muV X hM (h_mo.1) (c_X10_testifies_f4 l E b (updC mo 1 (cpG ((mo 1)) 0 10)) co k w 0 z hO hR1 hI gk gw (by omega) gz hf) kvX10_testifies kiX10_testifies kl_X10_101 (q0 := 0) rfl rfl (As := [.int (zI k), .int (zI w), .int (zI 0), .int (zI z)]) rfl rfl rfl dX10_testify_19 22 rfl (k' := 0) (n' := 0) rfl rfl (fun q hq => hq.elim) h_mo (fun rv H3 lo3 hM hF hpo => ?_)
    subst hpo
    replace h_mo := h_mo.kept hF 5 rfl (fun q _ _ h => h.elim)
    show V p l e (rmL 3 0 0) s m args below meth cd Q 5 H3 lo3 0 0 22 [(0, .ref b), (1, .int (zI k)), (2, .int (zI w)), (3, .int (zI f)), (4, .int (zI z))] [.int (zI 4), .ref b]
    refine v_iconst X dX10_testify_22 23 rfl ?_
    refine v_iconst X dX10_testify_23 24 rfl ?_
    refine v_iconst X dX10_testify_24 25 rfl ?_
    refine v_iconst X dX10_testify_25 26 rfl ?_
    refine v_muV X hM (h_mo.1) (c_X10_ends_4 l E b (updC mo 1 (cpG ((mo 1)) 0 10)) 1 2 0 3 (by omega) (by omega)) kvX10_ends kiX10_ends kl_X10_85 (q0 := 0) rfl rfl (As := [.int (zI 4), .int (zI 1), .int (zI 2), .int (zI 0), .int (zI 3)]) rfl rfl rfl dX10_testify_26 29 rfl (k' := 0) (n' := 0) rfl rfl (fsI (fun q q1 q2 => (Or.inl (fsH (by omega) (by omega))))) h_mo (fun rv H4 lo4 hM hF hpo => ?_)
    obtain ⟨rfl, hw_0⟩ := hpo
    have h_mo : PR E b (modelW E b (updC (updC mo 0 (updZ (mo 0) 0 3)) 1 (cpG ((cpG ((mo 1)) 0 10)) 10 0))) H4 := hw_0
    show V p l e (rmL 3 0 0) s m args below meth cd Q 5 H4 lo4 0 0 29 [(0, .ref b), (1, .int (zI k)), (2, .int (zI w)), (3, .int (zI f)), (4, .int (zI z))] [.int (zI 0)]
    subst hQ; exact m_iret X hr hlk hM dX10_testify_29 rfl ⟨(cpG ((cpG ((mo 1)) 0 10)) 10 0), rfl, (by exact RelM.back hRM (fun i hi => rfl) s1), h_mo⟩
  · skip
    refine v_iconst X dX10_testify_12 13 rfl ?_
    refine v_goto X dX10_testify_13 17 (by decide) ?_
    refine v_iload X dX10_testify_17 19 rfl 4 rfl ?_
    refine v_muV X hM (h_mo.1) (c_X10_testifies_f4 l E b (updC mo 1 (cpG ((mo 1)) 0 10)) co k w 1 z hO hR1 hI gk gw (by omega) gz hf) kvX10_testifies kiX10_testifies kl_X10_101 (q0 := 0) rfl rfl (As := [.int (zI k), .int (zI w), .int (zI 1), .int (zI z)]) rfl rfl rfl dX10_testify_19 22 rfl (k' := 0) (n' := 0) rfl rfl (fun q hq => hq.elim) h_mo (fun rv H5 lo5 hM hF hpo => ?_)
    subst hpo
    replace h_mo := h_mo.kept hF 5 rfl (fun q _ _ h => h.elim)
    show V p l e (rmL 3 0 0) s m args below meth cd Q 5 H5 lo5 0 0 22 [(0, .ref b), (1, .int (zI k)), (2, .int (zI w)), (3, .int (zI f)), (4, .int (zI z))] [.int (zI 4), .ref b]
    refine v_iconst X dX10_testify_22 23 rfl ?_
    refine v_iconst X dX10_testify_23 24 rfl ?_
    refine v_iconst X dX10_testify_24 25 rfl ?_
    refine v_iconst X dX10_testify_25 26 rfl ?_
    refine v_muV X hM (h_mo.1) (c_X10_ends_4 l E b (updC mo 1 (cpG ((mo 1)) 0 10)) 1 2 0 3 (by omega) (by omega)) kvX10_ends kiX10_ends kl_X10_85 (q0 := 0) rfl rfl (As := [.int (zI 4), .int (zI 1), .int (zI 2), .int (zI 0), .int (zI 3)]) rfl rfl rfl dX10_testify_26 29 rfl (k' := 0) (n' := 0) rfl rfl (fsI (fun q q1 q2 => (Or.inl (fsH (by omega) (by omega))))) h_mo (fun rv H6 lo6 hM hF hpo => ?_)
    obtain ⟨rfl, hw_0⟩ := hpo
    have h_mo : PR E b (modelW E b (updC (updC mo 0 (updZ (mo 0) 0 3)) 1 (cpG ((cpG ((mo 1)) 0 10)) 10 0))) H6 := hw_0
    show V p l e (rmL 3 0 0) s m args below meth cd Q 5 H6 lo6 0 0 29 [(0, .ref b), (1, .int (zI k)), (2, .int (zI w)), (3, .int (zI f)), (4, .int (zI z))] [.int (zI 0)]
    subst hQ; exact m_iret X hr hlk hM dX10_testify_29 rfl ⟨(cpG ((cpG ((mo 1)) 0 10)) 10 0), rfl, (by exact RelM.back hRM (fun i hi => rfl) s1), h_mo⟩
set_option maxHeartbeats 4000000 in
set_option maxRecDepth 20000 in
theorem c_X10_question_ok (l : Launch) (E : Nat → Nat → Nat) (b : Nat) (mo : Nat → Int → Int) (co : Nat → Int → Int) (cv : Nat → Int → Int) (hc : Nat → Nat → Int → Int) (nx : Int) (sz : Int) (hs : Int) (k : Int) (w : Int) (f : Int) (hO : OkC co) (hI : TsI co) (hRM : RelM co cv hc nx sz hs (mo 1)) (hch : mo 0 2 = sz) (n0 : 0 ≤ nx) (n1 : nx < 8) (s0 : 0 ≤ sz) (s1 : sz ≤ 8) (gk : Rg k) (gw : Rg w) (gf : 0 ≤ f ∧ f ≤ 1) (hf : flC co 3 k w 0 = 0) (hO2 : OkC (opC co 3 k w f 0)) : Mu l yX10_question cX10_question 4 (some .int) 3 0 0 E [(b, 5)] [.ref b, .int (zI k), .int (zI w), .int (zI f)] (fun H => PR E b (modelW E b mo) H) (fun rv H => ∃ g2 : Int → Int, ∃ q4 : Int, rv = some (.int (zI (opV co 3 k w f 0))) ∧ RelM (opC co 3 k w f 0) (cv) (fun j => if j = nx.toNat then co else hc j) (if nx < 7 then nx + 1 else 0) (min (sz + 1) 8) (hs) g2 ∧ PR E b (modelW E b (updC (updC mo 0 (updZ (updZ (updZ (mo 0) 0 0) 2 (min (sz + 1) 8)) 4 q4)) 1 g2)) H) := by
  refine Mu.start (own := RX10) rfl (by decide +kernel) (Nat.le_of_ble_eq_true rfl) ?_
  intro p e s m below meth cd args Q hQ X hr hlk hnm hM hPr
  have h_mo := hPr
  have hb0 := hO.b0
  have hbw := hO.bw
  refine v_aload_n X dX10_question_0 1 rfl 0 rfl ?_
  refine v_muV X hM (h_mo.1) (c_X10_begins l E b mo) kvX10_begins kiX10_begins kl_X10_79 (q0 := 0) rfl rfl (As := []) rfl rfl rfl dX10_question_1 4 rfl (k' := 0) (n' := 0) rfl rfl (fsI (fun q q1 q2 => (Or.inl (fsH (by omega) (by omega))))) h_mo (fun rv H1 lo1 hM hF hpo => ?_)
  obtain ⟨rfl, hw_0⟩ := hpo
  have h_mo : PR E b (modelW E b (updC mo 1 (cpG ((mo 1)) 0 10))) H1 := hw_0
  show V p l e (rmL 3 0 0) s m args below meth cd Q 4 H1 lo1 0 0 4 [(0, .ref b), (1, .int (zI k)), (2, .int (zI w)), (3, .int (zI f))] []
  have hR1 : RelC co (cpG (mo 1) 0 10) := hRM.1.2.of_eq hO (fun i a b => cpG_out (by omega))
  refine v_aload_n X dX10_question_4 5 rfl 0 rfl ?_
  refine v_aload_n X dX10_question_5 6 rfl 0 rfl ?_
  refine v_iload_n X dX10_question_6 7 rfl 1 rfl ?_
  refine v_iload_n X dX10_question_7 8 rfl 2 rfl ?_
  refine v_iload_n X dX10_question_8 9 rfl 3 rfl ?_
  refine v_muV X hM (h_mo.1) (c_X10_asks_ok l E b (updC mo 1 (cpG ((mo 1)) 0 10)) co k w f hO hR1 hI gk gw gf hf) kvX10_asks kiX10_asks kl_X10_105 (q0 := 0) rfl rfl (As := [.int (zI k), .int (zI w), .int (zI f)]) rfl rfl rfl dX10_question_9 12 rfl (k' := 0) (n' := 0) rfl rfl (fsI (fun q q1 q2 => (Or.inl (fsH (by omega) (by omega))))) h_mo (fun rv H2 lo2 hM hF hpo => ?_)
  obtain ⟨g1_3, rfl, hp_f_4, hp_f_5, hw_0⟩ := hpo
  have h_mo : PR E b (modelW E b (updC (updC mo 0 (updZ (mo 0) 4 (opV co 3 k w f 0))) 1 g1_3)) H2 := hw_0
  show V p l e (rmL 3 0 0) s m args below meth cd Q 4 H2 lo2 0 0 12 [(0, .ref b), (1, .int (zI k)), (2, .int (zI w)), (3, .int (zI f))] [.int (zI 0), .ref b]
  refine v_iconst X dX10_question_12 13 rfl ?_
  refine v_iconst X dX10_question_13 14 rfl ?_
  refine v_iconst X dX10_question_14 15 rfl ?_
  refine v_iconst X dX10_question_15 16 rfl ?_
  refine v_muV X hM (h_mo.1) (c_X10_ends_0 l E b (updC (updC mo 0 (updZ (mo 0) 4 (opV co 3 k w f 0))) 1 g1_3) 1 0 2 3 sz hch s0 s1) kvX10_ends kiX10_ends kl_X10_85 (q0 := 0) rfl rfl (As := [.int (zI 0), .int (zI 1), .int (zI 0), .int (zI 2), .int (zI 3)]) rfl rfl rfl dX10_question_16 19 rfl (k' := 0) (n' := 0) rfl rfl (fsI (fun q q1 q2 => (Or.inl (fsH (by omega) (by omega))))) h_mo (fun rv H6 lo6 hM hF hpo => ?_)
  obtain ⟨rfl, hw_0⟩ := hpo
  have h_mo : PR E b (modelW E b (updC (updC mo 0 (updZ (updZ (updZ (mo 0) 0 0) 2 (min (sz + 1) 8)) 4 (opV co 3 k w f 0))) 1 (endG (g1_3) sz))) H6 := hw_0
  show V p l e (rmL 3 0 0) s m args below meth cd Q 4 H6 lo6 0 0 19 [(0, .ref b), (1, .int (zI k)), (2, .int (zI w)), (3, .int (zI f))] [.int (zI (opV co 3 k w f 0))]
  have hb_7 := hO.b3 k
  subst hQ; exact m_iret X hr hlk hM dX10_question_19 rfl ⟨(endG (g1_3) sz), (opV co 3 k w f 0), rfl, (by exact RelM.push hRM ⟨hO2, hp_f_4⟩ hp_f_5 n0 n1 s0 s1), h_mo⟩
set_option maxHeartbeats 4000000 in
set_option maxRecDepth 20000 in
theorem c_X10_question_f1 (l : Launch) (E : Nat → Nat → Nat) (b : Nat) (mo : Nat → Int → Int) (co : Nat → Int → Int) (cv : Nat → Int → Int) (hc : Nat → Nat → Int → Int) (nx : Int) (sz : Int) (hs : Int) (k : Int) (w : Int) (f : Int) (hO : OkC co) (hI : TsI co) (hRM : RelM co cv hc nx sz hs (mo 1)) (hch : mo 0 2 = sz) (n0 : 0 ≤ nx) (n1 : nx < 8) (s0 : 0 ≤ sz) (s1 : sz ≤ 8) (gk : Rg k) (gw : Rg w) (gf : 0 ≤ f ∧ f ≤ 1) (hf : flC co 3 k w 0 = 1) : Mu l yX10_question cX10_question 4 (some .int) 3 0 0 E [(b, 5)] [.ref b, .int (zI k), .int (zI w), .int (zI f)] (fun H => PR E b (modelW E b mo) H) (fun rv H => ∃ g2 : Int → Int, rv = some (.int (zI 0)) ∧ RelM (co) (cv) (hc) (nx) (sz) (hs) g2 ∧ PR E b (modelW E b (updC (updC mo 0 (updZ (mo 0) 0 1)) 1 g2)) H) := by
  refine Mu.start (own := RX10) rfl (by decide +kernel) (Nat.le_of_ble_eq_true rfl) ?_
  intro p e s m below meth cd args Q hQ X hr hlk hnm hM hPr
  have h_mo := hPr
  have hb0 := hO.b0
  have hbw := hO.bw
  refine v_aload_n X dX10_question_0 1 rfl 0 rfl ?_
  refine v_muV X hM (h_mo.1) (c_X10_begins l E b mo) kvX10_begins kiX10_begins kl_X10_79 (q0 := 0) rfl rfl (As := []) rfl rfl rfl dX10_question_1 4 rfl (k' := 0) (n' := 0) rfl rfl (fsI (fun q q1 q2 => (Or.inl (fsH (by omega) (by omega))))) h_mo (fun rv H1 lo1 hM hF hpo => ?_)
  obtain ⟨rfl, hw_0⟩ := hpo
  have h_mo : PR E b (modelW E b (updC mo 1 (cpG ((mo 1)) 0 10))) H1 := hw_0
  show V p l e (rmL 3 0 0) s m args below meth cd Q 4 H1 lo1 0 0 4 [(0, .ref b), (1, .int (zI k)), (2, .int (zI w)), (3, .int (zI f))] []
  have hR1 : RelC co (cpG (mo 1) 0 10) := hRM.1.2.of_eq hO (fun i a b => cpG_out (by omega))
  refine v_aload_n X dX10_question_4 5 rfl 0 rfl ?_
  refine v_aload_n X dX10_question_5 6 rfl 0 rfl ?_
  refine v_iload_n X dX10_question_6 7 rfl 1 rfl ?_
  refine v_iload_n X dX10_question_7 8 rfl 2 rfl ?_
  refine v_iload_n X dX10_question_8 9 rfl 3 rfl ?_
  refine v_muV X hM (h_mo.1) (c_X10_asks_f1 l E b (updC mo 1 (cpG ((mo 1)) 0 10)) co k w f hO hR1 hI gk gw (by omega) hf) kvX10_asks kiX10_asks kl_X10_105 (q0 := 0) rfl rfl (As := [.int (zI k), .int (zI w), .int (zI f)]) rfl rfl rfl dX10_question_9 12 rfl (k' := 0) (n' := 0) rfl rfl (fun q hq => hq.elim) h_mo (fun rv H2 lo2 hM hF hpo => ?_)
  subst hpo
  replace h_mo := h_mo.kept hF 5 rfl (fun q _ _ h => h.elim)
  show V p l e (rmL 3 0 0) s m args below meth cd Q 4 H2 lo2 0 0 12 [(0, .ref b), (1, .int (zI k)), (2, .int (zI w)), (3, .int (zI f))] [.int (zI 1), .ref b]
  refine v_iconst X dX10_question_12 13 rfl ?_
  refine v_iconst X dX10_question_13 14 rfl ?_
  refine v_iconst X dX10_question_14 15 rfl ?_
  refine v_iconst X dX10_question_15 16 rfl ?_
  refine v_muV X hM (h_mo.1) (c_X10_ends_1 l E b (updC mo 1 (cpG ((mo 1)) 0 10)) 1 0 2 3 (by omega) (by omega)) kvX10_ends kiX10_ends kl_X10_85 (q0 := 0) rfl rfl (As := [.int (zI 1), .int (zI 1), .int (zI 0), .int (zI 2), .int (zI 3)]) rfl rfl rfl dX10_question_16 19 rfl (k' := 0) (n' := 0) rfl rfl (fsI (fun q q1 q2 => (Or.inl (fsH (by omega) (by omega))))) h_mo (fun rv H3 lo3 hM hF hpo => ?_)
  obtain ⟨rfl, hw_0⟩ := hpo
  have h_mo : PR E b (modelW E b (updC (updC mo 0 (updZ (mo 0) 0 1)) 1 (cpG ((cpG ((mo 1)) 0 10)) 10 0))) H3 := hw_0
  show V p l e (rmL 3 0 0) s m args below meth cd Q 4 H3 lo3 0 0 19 [(0, .ref b), (1, .int (zI k)), (2, .int (zI w)), (3, .int (zI f))] [.int (zI 0)]
  subst hQ; exact m_iret X hr hlk hM dX10_question_19 rfl ⟨(cpG ((cpG ((mo 1)) 0 10)) 10 0), rfl, (by exact RelM.back hRM (fun i hi => rfl) s1), h_mo⟩
set_option maxHeartbeats 4000000 in
set_option maxRecDepth 20000 in
theorem c_X10_question_f3 (l : Launch) (E : Nat → Nat → Nat) (b : Nat) (mo : Nat → Int → Int) (co : Nat → Int → Int) (cv : Nat → Int → Int) (hc : Nat → Nat → Int → Int) (nx : Int) (sz : Int) (hs : Int) (k : Int) (w : Int) (f : Int) (hO : OkC co) (hI : TsI co) (hRM : RelM co cv hc nx sz hs (mo 1)) (hch : mo 0 2 = sz) (n0 : 0 ≤ nx) (n1 : nx < 8) (s0 : 0 ≤ sz) (s1 : sz ≤ 8) (gk : Rg k) (gw : Rg w) (gf : 0 ≤ f ∧ f ≤ 1) (hf : flC co 3 k w 0 = 3) : Mu l yX10_question cX10_question 4 (some .int) 3 0 0 E [(b, 5)] [.ref b, .int (zI k), .int (zI w), .int (zI f)] (fun H => PR E b (modelW E b mo) H) (fun rv H => ∃ g2 : Int → Int, rv = some (.int (zI 0)) ∧ RelM (co) (cv) (hc) (nx) (sz) (hs) g2 ∧ PR E b (modelW E b (updC (updC mo 0 (updZ (mo 0) 0 2)) 1 g2)) H) := by
  refine Mu.start (own := RX10) rfl (by decide +kernel) (Nat.le_of_ble_eq_true rfl) ?_
  intro p e s m below meth cd args Q hQ X hr hlk hnm hM hPr
  have h_mo := hPr
  have hb0 := hO.b0
  have hbw := hO.bw
  refine v_aload_n X dX10_question_0 1 rfl 0 rfl ?_
  refine v_muV X hM (h_mo.1) (c_X10_begins l E b mo) kvX10_begins kiX10_begins kl_X10_79 (q0 := 0) rfl rfl (As := []) rfl rfl rfl dX10_question_1 4 rfl (k' := 0) (n' := 0) rfl rfl (fsI (fun q q1 q2 => (Or.inl (fsH (by omega) (by omega))))) h_mo (fun rv H1 lo1 hM hF hpo => ?_)
  obtain ⟨rfl, hw_0⟩ := hpo
  have h_mo : PR E b (modelW E b (updC mo 1 (cpG ((mo 1)) 0 10))) H1 := hw_0
  show V p l e (rmL 3 0 0) s m args below meth cd Q 4 H1 lo1 0 0 4 [(0, .ref b), (1, .int (zI k)), (2, .int (zI w)), (3, .int (zI f))] []
  have hR1 : RelC co (cpG (mo 1) 0 10) := hRM.1.2.of_eq hO (fun i a b => cpG_out (by omega))
  refine v_aload_n X dX10_question_4 5 rfl 0 rfl ?_
  refine v_aload_n X dX10_question_5 6 rfl 0 rfl ?_
  refine v_iload_n X dX10_question_6 7 rfl 1 rfl ?_
  refine v_iload_n X dX10_question_7 8 rfl 2 rfl ?_
  refine v_iload_n X dX10_question_8 9 rfl 3 rfl ?_
  refine v_muV X hM (h_mo.1) (c_X10_asks_f3 l E b (updC mo 1 (cpG ((mo 1)) 0 10)) co k w f hO hR1 hI gk gw (by omega) hf) kvX10_asks kiX10_asks kl_X10_105 (q0 := 0) rfl rfl (As := [.int (zI k), .int (zI w), .int (zI f)]) rfl rfl rfl dX10_question_9 12 rfl (k' := 0) (n' := 0) rfl rfl (fun q hq => hq.elim) h_mo (fun rv H2 lo2 hM hF hpo => ?_)
  subst hpo
  replace h_mo := h_mo.kept hF 5 rfl (fun q _ _ h => h.elim)
  show V p l e (rmL 3 0 0) s m args below meth cd Q 4 H2 lo2 0 0 12 [(0, .ref b), (1, .int (zI k)), (2, .int (zI w)), (3, .int (zI f))] [.int (zI 3), .ref b]
  refine v_iconst X dX10_question_12 13 rfl ?_
  refine v_iconst X dX10_question_13 14 rfl ?_
  refine v_iconst X dX10_question_14 15 rfl ?_
  refine v_iconst X dX10_question_15 16 rfl ?_
  refine v_muV X hM (h_mo.1) (c_X10_ends_3 l E b (updC mo 1 (cpG ((mo 1)) 0 10)) 1 0 2 3 (by omega) (by omega)) kvX10_ends kiX10_ends kl_X10_85 (q0 := 0) rfl rfl (As := [.int (zI 3), .int (zI 1), .int (zI 0), .int (zI 2), .int (zI 3)]) rfl rfl rfl dX10_question_16 19 rfl (k' := 0) (n' := 0) rfl rfl (fsI (fun q q1 q2 => (Or.inl (fsH (by omega) (by omega))))) h_mo (fun rv H3 lo3 hM hF hpo => ?_)
  obtain ⟨rfl, hw_0⟩ := hpo
  have h_mo : PR E b (modelW E b (updC (updC mo 0 (updZ (mo 0) 0 2)) 1 (cpG ((cpG ((mo 1)) 0 10)) 10 0))) H3 := hw_0
  show V p l e (rmL 3 0 0) s m args below meth cd Q 4 H3 lo3 0 0 19 [(0, .ref b), (1, .int (zI k)), (2, .int (zI w)), (3, .int (zI f))] [.int (zI 0)]
  subst hQ; exact m_iret X hr hlk hM dX10_question_19 rfl ⟨(cpG ((cpG ((mo 1)) 0 10)) 10 0), rfl, (by exact RelM.back hRM (fun i hi => rfl) s1), h_mo⟩
set_option maxHeartbeats 4000000 in
set_option maxRecDepth 20000 in
theorem c_X10_question_f4 (l : Launch) (E : Nat → Nat → Nat) (b : Nat) (mo : Nat → Int → Int) (co : Nat → Int → Int) (cv : Nat → Int → Int) (hc : Nat → Nat → Int → Int) (nx : Int) (sz : Int) (hs : Int) (k : Int) (w : Int) (f : Int) (hO : OkC co) (hI : TsI co) (hRM : RelM co cv hc nx sz hs (mo 1)) (hch : mo 0 2 = sz) (n0 : 0 ≤ nx) (n1 : nx < 8) (s0 : 0 ≤ sz) (s1 : sz ≤ 8) (gk : Rg k) (gw : Rg w) (gf : 0 ≤ f ∧ f ≤ 1) (hf : flC co 3 k w 0 = 4) : Mu l yX10_question cX10_question 4 (some .int) 3 0 0 E [(b, 5)] [.ref b, .int (zI k), .int (zI w), .int (zI f)] (fun H => PR E b (modelW E b mo) H) (fun rv H => ∃ g2 : Int → Int, rv = some (.int (zI 0)) ∧ RelM (co) (cv) (hc) (nx) (sz) (hs) g2 ∧ PR E b (modelW E b (updC (updC mo 0 (updZ (mo 0) 0 3)) 1 g2)) H) := by
  refine Mu.start (own := RX10) rfl (by decide +kernel) (Nat.le_of_ble_eq_true rfl) ?_
  intro p e s m below meth cd args Q hQ X hr hlk hnm hM hPr
  have h_mo := hPr
  have hb0 := hO.b0
  have hbw := hO.bw
  refine v_aload_n X dX10_question_0 1 rfl 0 rfl ?_
  refine v_muV X hM (h_mo.1) (c_X10_begins l E b mo) kvX10_begins kiX10_begins kl_X10_79 (q0 := 0) rfl rfl (As := []) rfl rfl rfl dX10_question_1 4 rfl (k' := 0) (n' := 0) rfl rfl (fsI (fun q q1 q2 => (Or.inl (fsH (by omega) (by omega))))) h_mo (fun rv H1 lo1 hM hF hpo => ?_)
  obtain ⟨rfl, hw_0⟩ := hpo
  have h_mo : PR E b (modelW E b (updC mo 1 (cpG ((mo 1)) 0 10))) H1 := hw_0
  show V p l e (rmL 3 0 0) s m args below meth cd Q 4 H1 lo1 0 0 4 [(0, .ref b), (1, .int (zI k)), (2, .int (zI w)), (3, .int (zI f))] []
  have hR1 : RelC co (cpG (mo 1) 0 10) := hRM.1.2.of_eq hO (fun i a b => cpG_out (by omega))
  refine v_aload_n X dX10_question_4 5 rfl 0 rfl ?_
  refine v_aload_n X dX10_question_5 6 rfl 0 rfl ?_
  refine v_iload_n X dX10_question_6 7 rfl 1 rfl ?_
  refine v_iload_n X dX10_question_7 8 rfl 2 rfl ?_
  refine v_iload_n X dX10_question_8 9 rfl 3 rfl ?_
  refine v_muV X hM (h_mo.1) (c_X10_asks_f4 l E b (updC mo 1 (cpG ((mo 1)) 0 10)) co k w f hO hR1 hI gk gw (by omega) hf) kvX10_asks kiX10_asks kl_X10_105 (q0 := 0) rfl rfl (As := [.int (zI k), .int (zI w), .int (zI f)]) rfl rfl rfl dX10_question_9 12 rfl (k' := 0) (n' := 0) rfl rfl (fun q hq => hq.elim) h_mo (fun rv H2 lo2 hM hF hpo => ?_)
  subst hpo
  replace h_mo := h_mo.kept hF 5 rfl (fun q _ _ h => h.elim)
  show V p l e (rmL 3 0 0) s m args below meth cd Q 4 H2 lo2 0 0 12 [(0, .ref b), (1, .int (zI k)), (2, .int (zI w)), (3, .int (zI f))] [.int (zI 4), .ref b]
  refine v_iconst X dX10_question_12 13 rfl ?_
  refine v_iconst X dX10_question_13 14 rfl ?_
  refine v_iconst X dX10_question_14 15 rfl ?_
  refine v_iconst X dX10_question_15 16 rfl ?_
  refine v_muV X hM (h_mo.1) (c_X10_ends_4 l E b (updC mo 1 (cpG ((mo 1)) 0 10)) 1 0 2 3 (by omega) (by omega)) kvX10_ends kiX10_ends kl_X10_85 (q0 := 0) rfl rfl (As := [.int (zI 4), .int (zI 1), .int (zI 0), .int (zI 2), .int (zI 3)]) rfl rfl rfl dX10_question_16 19 rfl (k' := 0) (n' := 0) rfl rfl (fsI (fun q q1 q2 => (Or.inl (fsH (by omega) (by omega))))) h_mo (fun rv H3 lo3 hM hF hpo => ?_)
  obtain ⟨rfl, hw_0⟩ := hpo
  have h_mo : PR E b (modelW E b (updC (updC mo 0 (updZ (mo 0) 0 3)) 1 (cpG ((cpG ((mo 1)) 0 10)) 10 0))) H3 := hw_0
  show V p l e (rmL 3 0 0) s m args below meth cd Q 4 H3 lo3 0 0 19 [(0, .ref b), (1, .int (zI k)), (2, .int (zI w)), (3, .int (zI f))] [.int (zI 0)]
  subst hQ; exact m_iret X hr hlk hM dX10_question_19 rfl ⟨(cpG ((cpG ((mo 1)) 0 10)) 10 0), rfl, (by exact RelM.back hRM (fun i hi => rfl) s1), h_mo⟩
set_option maxHeartbeats 4000000 in
set_option maxRecDepth 20000 in
theorem c_X10_decide_ok (l : Launch) (E : Nat → Nat → Nat) (b : Nat) (mo : Nat → Int → Int) (co : Nat → Int → Int) (cv : Nat → Int → Int) (hc : Nat → Nat → Int → Int) (nx : Int) (sz : Int) (hs : Int) (k : Int) (hO : OkC co) (hI : TsI co) (hRM : RelM co cv hc nx sz hs (mo 1)) (hch : mo 0 2 = sz) (n0 : 0 ≤ nx) (n1 : nx < 8) (s0 : 0 ≤ sz) (s1 : sz ≤ 8) (gk : Rg k) (hf : flC co 4 k 0 0 = 0) (hO2 : OkC (opC co 4 k 0 0 0)) : Mu l yX10_decide cX10_decide 2 (some .boolean) 5 0 0 E [(b, 5)] [.ref b, .int (zI k)] (fun H => PR E b (modelW E b mo) H) (fun rv H => ∃ g2 : Int → Int, ∃ q4 : Int, rv = some (.int (zI (bz (¬ opV co 4 k 0 0 0 = 0)))) ∧ RelM (opC co 4 k 0 0 0) (cv) (fun j => if j = nx.toNat then co else hc j) (if nx < 7 then nx + 1 else 0) (min (sz + 1) 8) (hs) g2 ∧ PR E b (modelW E b (updC (updC mo 0 (updZ (updZ (updZ (mo 0) 0 0) 2 (min (sz + 1) 8)) 4 q4)) 1 g2)) H) := by
  refine Mu.start (own := RX10) rfl (by decide +kernel) (Nat.le_of_ble_eq_true rfl) ?_
  intro p e s m below meth cd args Q hQ X hr hlk hnm hM hPr
  have h_mo := hPr
  have hb0 := hO.b0
  have hbw := hO.bw
  have hov := opV4_b co k 0 0 0
  refine v_aload_n X dX10_decide_0 1 rfl 0 rfl ?_
  refine v_muV X hM (h_mo.1) (c_X10_begins l E b mo) kvX10_begins kiX10_begins kl_X10_79 (q0 := 0) rfl rfl (As := []) rfl rfl rfl dX10_decide_1 4 rfl (k' := 0) (n' := 0) rfl rfl (fsI (fun q q1 q2 => (Or.inl (fsH (by omega) (by omega))))) h_mo (fun rv H1 lo1 hM hF hpo => ?_)
  obtain ⟨rfl, hw_0⟩ := hpo
  have h_mo : PR E b (modelW E b (updC mo 1 (cpG ((mo 1)) 0 10))) H1 := hw_0
  show V p l e (rmL 5 0 0) s m args below meth cd Q 2 H1 lo1 0 0 4 [(0, .ref b), (1, .int (zI k))] []
  have hR1 : RelC co (cpG (mo 1) 0 10) := hRM.1.2.of_eq hO (fun i a b => cpG_out (by omega))
  refine v_aload_n X dX10_decide_4 5 rfl 0 rfl ?_
  refine v_aload_n X dX10_decide_5 6 rfl 0 rfl ?_
  refine v_iload_n X dX10_decide_6 7 rfl 1 rfl ?_
  refine v_muV X hM (h_mo.1) (c_X10_decides_ok l E b (updC mo 1 (cpG ((mo 1)) 0 10)) co k hO hR1 hI gk hf) kvX10_decides kiX10_decides kl_X10_112 (q0 := 0) rfl rfl (As := [.int (zI k)]) rfl rfl rfl dX10_decide_7 10 rfl (k' := 0) (n' := 0) rfl rfl (fsI (fun q q1 q2 => (Or.inl (fsH (by omega) (by omega))))) h_mo (fun rv H2 lo2 hM hF hpo => ?_)
  obtain ⟨g1_3, rfl, hp_f_4, hp_f_5, hw_0⟩ := hpo
  have h_mo : PR E b (modelW E b (updC (updC mo 0 (updZ (mo 0) 4 (opV co 4 k 0 0 0))) 1 g1_3)) H2 := hw_0
  show V p l e (rmL 5 0 0) s m args below meth cd Q 2 H2 lo2 0 0 10 [(0, .ref b), (1, .int (zI k))] [.int (zI 0), .ref b]
  refine v_iconst X dX10_decide_10 11 rfl ?_
  refine v_iconst X dX10_decide_11 12 rfl ?_
  refine v_iconst X dX10_decide_12 13 rfl ?_
  refine v_iconst X dX10_decide_13 14 rfl ?_
  refine v_muV X hM (h_mo.1) (c_X10_ends_0 l E b (updC (updC mo 0 (updZ (mo 0) 4 (opV co 4 k 0 0 0))) 1 g1_3) 1 0 0 2 sz hch s0 s1) kvX10_ends kiX10_ends kl_X10_85 (q0 := 0) rfl rfl (As := [.int (zI 0), .int (zI 1), .int (zI 0), .int (zI 0), .int (zI 2)]) rfl rfl rfl dX10_decide_14 17 rfl (k' := 0) (n' := 0) rfl rfl (fsI (fun q q1 q2 => (Or.inl (fsH (by omega) (by omega))))) h_mo (fun rv H6 lo6 hM hF hpo => ?_)
  obtain ⟨rfl, hw_0⟩ := hpo
  have h_mo : PR E b (modelW E b (updC (updC mo 0 (updZ (updZ (updZ (mo 0) 0 0) 2 (min (sz + 1) 8)) 4 (opV co 4 k 0 0 0))) 1 (endG (g1_3) sz))) H6 := hw_0
  show V p l e (rmL 5 0 0) s m args below meth cd Q 2 H6 lo6 0 0 17 [(0, .ref b), (1, .int (zI k))] [.int (zI (opV co 4 k 0 0 0))]
  have hb_7 := hO.b4 k
  refine v_iconst X dX10_decide_17 18 rfl ?_
  refine v_icmp_ne X (by omega) (by omega) dX10_decide_18 21 25 rfl (by decide) (fun c_8 => ?_) (fun c_8 => ?_)
  · skip
    refine v_iconst X dX10_decide_25 26 rfl ?_
    subst hQ; exact m_zret X hr hlk hM dX10_decide_26 rfl (by omega) ⟨(endG (g1_3) sz), (opV co 4 k 0 0 0), (sv (bz_f (by first | rfl | omega | rw [show f = 1 by omega] | rw [show f = 0 by omega]))), (by exact RelM.push hRM ⟨hO2, hp_f_4⟩ hp_f_5 n0 n1 s0 s1), h_mo⟩
  · skip
    refine v_iconst X dX10_decide_21 22 rfl ?_
    refine v_goto X dX10_decide_22 26 (by decide) ?_
    subst hQ; exact m_zret X hr hlk hM dX10_decide_26 rfl (by omega) ⟨(endG (g1_3) sz), (opV co 4 k 0 0 0), (sv (bz_t (by first | rfl | omega | rw [show f = 1 by omega] | rw [show f = 0 by omega]))), (by exact RelM.push hRM ⟨hO2, hp_f_4⟩ hp_f_5 n0 n1 s0 s1), h_mo⟩
set_option maxHeartbeats 4000000 in
set_option maxRecDepth 20000 in
theorem c_X10_decide_f1 (l : Launch) (E : Nat → Nat → Nat) (b : Nat) (mo : Nat → Int → Int) (co : Nat → Int → Int) (cv : Nat → Int → Int) (hc : Nat → Nat → Int → Int) (nx : Int) (sz : Int) (hs : Int) (k : Int) (hO : OkC co) (hI : TsI co) (hRM : RelM co cv hc nx sz hs (mo 1)) (hch : mo 0 2 = sz) (n0 : 0 ≤ nx) (n1 : nx < 8) (s0 : 0 ≤ sz) (s1 : sz ≤ 8) (gk : Rg k) (hf : flC co 4 k 0 0 = 1) : Mu l yX10_decide cX10_decide 2 (some .boolean) 3 0 0 E [(b, 5)] [.ref b, .int (zI k)] (fun H => PR E b (modelW E b mo) H) (fun rv H => ∃ g2 : Int → Int, rv = some (.int (zI 0)) ∧ RelM (co) (cv) (hc) (nx) (sz) (hs) g2 ∧ PR E b (modelW E b (updC (updC mo 0 (updZ (mo 0) 0 1)) 1 g2)) H) := by
  refine Mu.start (own := RX10) rfl (by decide +kernel) (Nat.le_of_ble_eq_true rfl) ?_
  intro p e s m below meth cd args Q hQ X hr hlk hnm hM hPr
  have h_mo := hPr
  have hb0 := hO.b0
  have hbw := hO.bw
  refine v_aload_n X dX10_decide_0 1 rfl 0 rfl ?_
  refine v_muV X hM (h_mo.1) (c_X10_begins l E b mo) kvX10_begins kiX10_begins kl_X10_79 (q0 := 0) rfl rfl (As := []) rfl rfl rfl dX10_decide_1 4 rfl (k' := 0) (n' := 0) rfl rfl (fsI (fun q q1 q2 => (Or.inl (fsH (by omega) (by omega))))) h_mo (fun rv H1 lo1 hM hF hpo => ?_)
  obtain ⟨rfl, hw_0⟩ := hpo
  have h_mo : PR E b (modelW E b (updC mo 1 (cpG ((mo 1)) 0 10))) H1 := hw_0
  show V p l e (rmL 3 0 0) s m args below meth cd Q 2 H1 lo1 0 0 4 [(0, .ref b), (1, .int (zI k))] []
  have hR1 : RelC co (cpG (mo 1) 0 10) := hRM.1.2.of_eq hO (fun i a b => cpG_out (by omega))
  refine v_aload_n X dX10_decide_4 5 rfl 0 rfl ?_
  refine v_aload_n X dX10_decide_5 6 rfl 0 rfl ?_
  refine v_iload_n X dX10_decide_6 7 rfl 1 rfl ?_
  refine v_muV X hM (h_mo.1) (c_X10_decides_f1 l E b (updC mo 1 (cpG ((mo 1)) 0 10)) co k hO hR1 hI gk hf) kvX10_decides kiX10_decides kl_X10_112 (q0 := 0) rfl rfl (As := [.int (zI k)]) rfl rfl rfl dX10_decide_7 10 rfl (k' := 0) (n' := 0) rfl rfl (fun q hq => hq.elim) h_mo (fun rv H2 lo2 hM hF hpo => ?_)
  subst hpo
  replace h_mo := h_mo.kept hF 5 rfl (fun q _ _ h => h.elim)
  show V p l e (rmL 3 0 0) s m args below meth cd Q 2 H2 lo2 0 0 10 [(0, .ref b), (1, .int (zI k))] [.int (zI 1), .ref b]
  refine v_iconst X dX10_decide_10 11 rfl ?_
  refine v_iconst X dX10_decide_11 12 rfl ?_
  refine v_iconst X dX10_decide_12 13 rfl ?_
  refine v_iconst X dX10_decide_13 14 rfl ?_
  refine v_muV X hM (h_mo.1) (c_X10_ends_1 l E b (updC mo 1 (cpG ((mo 1)) 0 10)) 1 0 0 2 (by omega) (by omega)) kvX10_ends kiX10_ends kl_X10_85 (q0 := 0) rfl rfl (As := [.int (zI 1), .int (zI 1), .int (zI 0), .int (zI 0), .int (zI 2)]) rfl rfl rfl dX10_decide_14 17 rfl (k' := 0) (n' := 0) rfl rfl (fsI (fun q q1 q2 => (Or.inl (fsH (by omega) (by omega))))) h_mo (fun rv H3 lo3 hM hF hpo => ?_)
  obtain ⟨rfl, hw_0⟩ := hpo
  have h_mo : PR E b (modelW E b (updC (updC mo 0 (updZ (mo 0) 0 1)) 1 (cpG ((cpG ((mo 1)) 0 10)) 10 0))) H3 := hw_0
  show V p l e (rmL 3 0 0) s m args below meth cd Q 2 H3 lo3 0 0 17 [(0, .ref b), (1, .int (zI k))] [.int (zI 0)]
  refine v_iconst X dX10_decide_17 18 rfl ?_
  refine v_icmp_ne X (by omega) (by omega) dX10_decide_18 21 25 rfl (by decide) (fun c_4 => ?_) (fun c_4 => ?_)
  · skip
    refine v_iconst X dX10_decide_25 26 rfl ?_
    subst hQ; exact m_zret X hr hlk hM dX10_decide_26 rfl (by omega) ⟨(cpG ((cpG ((mo 1)) 0 10)) 10 0), rfl, (by exact RelM.back hRM (fun i hi => rfl) s1), h_mo⟩
  · skip
    exfalso; omega
set_option maxHeartbeats 4000000 in
set_option maxRecDepth 20000 in
theorem c_X10_decide_f4 (l : Launch) (E : Nat → Nat → Nat) (b : Nat) (mo : Nat → Int → Int) (co : Nat → Int → Int) (cv : Nat → Int → Int) (hc : Nat → Nat → Int → Int) (nx : Int) (sz : Int) (hs : Int) (k : Int) (hO : OkC co) (hI : TsI co) (hRM : RelM co cv hc nx sz hs (mo 1)) (hch : mo 0 2 = sz) (n0 : 0 ≤ nx) (n1 : nx < 8) (s0 : 0 ≤ sz) (s1 : sz ≤ 8) (gk : Rg k) (hf : flC co 4 k 0 0 = 4) : Mu l yX10_decide cX10_decide 2 (some .boolean) 3 0 0 E [(b, 5)] [.ref b, .int (zI k)] (fun H => PR E b (modelW E b mo) H) (fun rv H => ∃ g2 : Int → Int, rv = some (.int (zI 0)) ∧ RelM (co) (cv) (hc) (nx) (sz) (hs) g2 ∧ PR E b (modelW E b (updC (updC mo 0 (updZ (mo 0) 0 2)) 1 g2)) H) := by
  refine Mu.start (own := RX10) rfl (by decide +kernel) (Nat.le_of_ble_eq_true rfl) ?_
  intro p e s m below meth cd args Q hQ X hr hlk hnm hM hPr
  have h_mo := hPr
  have hb0 := hO.b0
  have hbw := hO.bw
  refine v_aload_n X dX10_decide_0 1 rfl 0 rfl ?_
  refine v_muV X hM (h_mo.1) (c_X10_begins l E b mo) kvX10_begins kiX10_begins kl_X10_79 (q0 := 0) rfl rfl (As := []) rfl rfl rfl dX10_decide_1 4 rfl (k' := 0) (n' := 0) rfl rfl (fsI (fun q q1 q2 => (Or.inl (fsH (by omega) (by omega))))) h_mo (fun rv H1 lo1 hM hF hpo => ?_)
  obtain ⟨rfl, hw_0⟩ := hpo
  have h_mo : PR E b (modelW E b (updC mo 1 (cpG ((mo 1)) 0 10))) H1 := hw_0
  show V p l e (rmL 3 0 0) s m args below meth cd Q 2 H1 lo1 0 0 4 [(0, .ref b), (1, .int (zI k))] []
  have hR1 : RelC co (cpG (mo 1) 0 10) := hRM.1.2.of_eq hO (fun i a b => cpG_out (by omega))
  refine v_aload_n X dX10_decide_4 5 rfl 0 rfl ?_
  refine v_aload_n X dX10_decide_5 6 rfl 0 rfl ?_
  refine v_iload_n X dX10_decide_6 7 rfl 1 rfl ?_
  refine v_muV X hM (h_mo.1) (c_X10_decides_f4 l E b (updC mo 1 (cpG ((mo 1)) 0 10)) co k hO hR1 hI gk hf) kvX10_decides kiX10_decides kl_X10_112 (q0 := 0) rfl rfl (As := [.int (zI k)]) rfl rfl rfl dX10_decide_7 10 rfl (k' := 0) (n' := 0) rfl rfl (fun q hq => hq.elim) h_mo (fun rv H2 lo2 hM hF hpo => ?_)
  subst hpo
  replace h_mo := h_mo.kept hF 5 rfl (fun q _ _ h => h.elim)
  show V p l e (rmL 3 0 0) s m args below meth cd Q 2 H2 lo2 0 0 10 [(0, .ref b), (1, .int (zI k))] [.int (zI 4), .ref b]
  refine v_iconst X dX10_decide_10 11 rfl ?_
  refine v_iconst X dX10_decide_11 12 rfl ?_
  refine v_iconst X dX10_decide_12 13 rfl ?_
  refine v_iconst X dX10_decide_13 14 rfl ?_
  refine v_muV X hM (h_mo.1) (c_X10_ends_4 l E b (updC mo 1 (cpG ((mo 1)) 0 10)) 1 0 0 2 (by omega) (by omega)) kvX10_ends kiX10_ends kl_X10_85 (q0 := 0) rfl rfl (As := [.int (zI 4), .int (zI 1), .int (zI 0), .int (zI 0), .int (zI 2)]) rfl rfl rfl dX10_decide_14 17 rfl (k' := 0) (n' := 0) rfl rfl (fsI (fun q q1 q2 => (Or.inl (fsH (by omega) (by omega))))) h_mo (fun rv H3 lo3 hM hF hpo => ?_)
  obtain ⟨rfl, hw_0⟩ := hpo
  have h_mo : PR E b (modelW E b (updC (updC mo 0 (updZ (mo 0) 0 2)) 1 (cpG ((cpG ((mo 1)) 0 10)) 10 0))) H3 := hw_0
  show V p l e (rmL 3 0 0) s m args below meth cd Q 2 H3 lo3 0 0 17 [(0, .ref b), (1, .int (zI k))] [.int (zI 0)]
  refine v_iconst X dX10_decide_17 18 rfl ?_
  refine v_icmp_ne X (by omega) (by omega) dX10_decide_18 21 25 rfl (by decide) (fun c_4 => ?_) (fun c_4 => ?_)
  · skip
    refine v_iconst X dX10_decide_25 26 rfl ?_
    subst hQ; exact m_zret X hr hlk hM dX10_decide_26 rfl (by omega) ⟨(cpG ((cpG ((mo 1)) 0 10)) 10 0), rfl, (by exact RelM.back hRM (fun i hi => rfl) s1), h_mo⟩
  · skip
    exfalso; omega
set_option maxHeartbeats 4000000 in
set_option maxRecDepth 20000 in
theorem c_X10_appeal_ok (l : Launch) (E : Nat → Nat → Nat) (b : Nat) (mo : Nat → Int → Int) (co : Nat → Int → Int) (cv : Nat → Int → Int) (hc : Nat → Nat → Int → Int) (nx : Int) (sz : Int) (hs : Int) (k : Int) (hO : OkC co) (hI : TsI co) (hRM : RelM co cv hc nx sz hs (mo 1)) (hch : mo 0 2 = sz) (n0 : 0 ≤ nx) (n1 : nx < 8) (s0 : 0 ≤ sz) (s1 : sz ≤ 8) (gk : Rg k) (hf : flC co 5 k 0 0 = 0) (hO2 : OkC (opC co 5 k 0 0 0)) : Mu l yX10_appeal cX10_appeal 2 (some .int) 3 0 0 E [(b, 5)] [.ref b, .int (zI k)] (fun H => PR E b (modelW E b mo) H) (fun rv H => ∃ g2 : Int → Int, ∃ q4 : Int, rv = some (.int (zI (opV co 5 k 0 0 0))) ∧ RelM (opC co 5 k 0 0 0) (cv) (fun j => if j = nx.toNat then co else hc j) (if nx < 7 then nx + 1 else 0) (min (sz + 1) 8) (hs) g2 ∧ PR E b (modelW E b (updC (updC mo 0 (updZ (updZ (updZ (mo 0) 0 0) 2 (min (sz + 1) 8)) 4 q4)) 1 g2)) H) := by
  refine Mu.start (own := RX10) rfl (by decide +kernel) (Nat.le_of_ble_eq_true rfl) ?_
  intro p e s m below meth cd args Q hQ X hr hlk hnm hM hPr
  have h_mo := hPr
  have hb0 := hO.b0
  have hbw := hO.bw
  refine v_aload_n X dX10_appeal_0 1 rfl 0 rfl ?_
  refine v_muV X hM (h_mo.1) (c_X10_begins l E b mo) kvX10_begins kiX10_begins kl_X10_79 (q0 := 0) rfl rfl (As := []) rfl rfl rfl dX10_appeal_1 4 rfl (k' := 0) (n' := 0) rfl rfl (fsI (fun q q1 q2 => (Or.inl (fsH (by omega) (by omega))))) h_mo (fun rv H1 lo1 hM hF hpo => ?_)
  obtain ⟨rfl, hw_0⟩ := hpo
  have h_mo : PR E b (modelW E b (updC mo 1 (cpG ((mo 1)) 0 10))) H1 := hw_0
  show V p l e (rmL 3 0 0) s m args below meth cd Q 2 H1 lo1 0 0 4 [(0, .ref b), (1, .int (zI k))] []
  have hR1 : RelC co (cpG (mo 1) 0 10) := hRM.1.2.of_eq hO (fun i a b => cpG_out (by omega))
  refine v_aload_n X dX10_appeal_4 5 rfl 0 rfl ?_
  refine v_aload_n X dX10_appeal_5 6 rfl 0 rfl ?_
  refine v_iload_n X dX10_appeal_6 7 rfl 1 rfl ?_
  refine v_muV X hM (h_mo.1) (c_X10_appeals_ok l E b (updC mo 1 (cpG ((mo 1)) 0 10)) co k hO hR1 hI gk hf) kvX10_appeals kiX10_appeals kl_X10_115 (q0 := 0) rfl rfl (As := [.int (zI k)]) rfl rfl rfl dX10_appeal_7 10 rfl (k' := 0) (n' := 0) rfl rfl (fsI (fun q q1 q2 => (Or.inl (fsH (by omega) (by omega))))) h_mo (fun rv H2 lo2 hM hF hpo => ?_)
  obtain ⟨g1_3, rfl, hp_f_4, hp_f_5, hw_0⟩ := hpo
  have h_mo : PR E b (modelW E b (updC (updC mo 0 (updZ (mo 0) 4 (opV co 5 k 0 0 0))) 1 g1_3)) H2 := hw_0
  show V p l e (rmL 3 0 0) s m args below meth cd Q 2 H2 lo2 0 0 10 [(0, .ref b), (1, .int (zI k))] [.int (zI 0), .ref b]
  refine v_iconst X dX10_appeal_10 11 rfl ?_
  refine v_iconst X dX10_appeal_11 12 rfl ?_
  refine v_iconst X dX10_appeal_12 13 rfl ?_
  refine v_iconst X dX10_appeal_13 14 rfl ?_
  refine v_muV X hM (h_mo.1) (c_X10_ends_0 l E b (updC (updC mo 0 (updZ (mo 0) 4 (opV co 5 k 0 0 0))) 1 g1_3) 1 0 0 2 sz hch s0 s1) kvX10_ends kiX10_ends kl_X10_85 (q0 := 0) rfl rfl (As := [.int (zI 0), .int (zI 1), .int (zI 0), .int (zI 0), .int (zI 2)]) rfl rfl rfl dX10_appeal_14 17 rfl (k' := 0) (n' := 0) rfl rfl (fsI (fun q q1 q2 => (Or.inl (fsH (by omega) (by omega))))) h_mo (fun rv H6 lo6 hM hF hpo => ?_)
  obtain ⟨rfl, hw_0⟩ := hpo
  have h_mo : PR E b (modelW E b (updC (updC mo 0 (updZ (updZ (updZ (mo 0) 0 0) 2 (min (sz + 1) 8)) 4 (opV co 5 k 0 0 0))) 1 (endG (g1_3) sz))) H6 := hw_0
  show V p l e (rmL 3 0 0) s m args below meth cd Q 2 H6 lo6 0 0 17 [(0, .ref b), (1, .int (zI k))] [.int (zI (opV co 5 k 0 0 0))]
  have hb_7 := hO.b5 k
  subst hQ; exact m_iret X hr hlk hM dX10_appeal_17 rfl ⟨(endG (g1_3) sz), (opV co 5 k 0 0 0), rfl, (by exact RelM.push hRM ⟨hO2, hp_f_4⟩ hp_f_5 n0 n1 s0 s1), h_mo⟩
set_option maxHeartbeats 4000000 in
set_option maxRecDepth 20000 in
theorem c_X10_appeal_f1 (l : Launch) (E : Nat → Nat → Nat) (b : Nat) (mo : Nat → Int → Int) (co : Nat → Int → Int) (cv : Nat → Int → Int) (hc : Nat → Nat → Int → Int) (nx : Int) (sz : Int) (hs : Int) (k : Int) (hO : OkC co) (hI : TsI co) (hRM : RelM co cv hc nx sz hs (mo 1)) (hch : mo 0 2 = sz) (n0 : 0 ≤ nx) (n1 : nx < 8) (s0 : 0 ≤ sz) (s1 : sz ≤ 8) (gk : Rg k) (hf : flC co 5 k 0 0 = 1) : Mu l yX10_appeal cX10_appeal 2 (some .int) 3 0 0 E [(b, 5)] [.ref b, .int (zI k)] (fun H => PR E b (modelW E b mo) H) (fun rv H => ∃ g2 : Int → Int, rv = some (.int (zI 0)) ∧ RelM (co) (cv) (hc) (nx) (sz) (hs) g2 ∧ PR E b (modelW E b (updC (updC mo 0 (updZ (mo 0) 0 1)) 1 g2)) H) := by
  refine Mu.start (own := RX10) rfl (by decide +kernel) (Nat.le_of_ble_eq_true rfl) ?_
  intro p e s m below meth cd args Q hQ X hr hlk hnm hM hPr
  have h_mo := hPr
  have hb0 := hO.b0
  have hbw := hO.bw
  refine v_aload_n X dX10_appeal_0 1 rfl 0 rfl ?_
  refine v_muV X hM (h_mo.1) (c_X10_begins l E b mo) kvX10_begins kiX10_begins kl_X10_79 (q0 := 0) rfl rfl (As := []) rfl rfl rfl dX10_appeal_1 4 rfl (k' := 0) (n' := 0) rfl rfl (fsI (fun q q1 q2 => (Or.inl (fsH (by omega) (by omega))))) h_mo (fun rv H1 lo1 hM hF hpo => ?_)
  obtain ⟨rfl, hw_0⟩ := hpo
  have h_mo : PR E b (modelW E b (updC mo 1 (cpG ((mo 1)) 0 10))) H1 := hw_0
  show V p l e (rmL 3 0 0) s m args below meth cd Q 2 H1 lo1 0 0 4 [(0, .ref b), (1, .int (zI k))] []
  have hR1 : RelC co (cpG (mo 1) 0 10) := hRM.1.2.of_eq hO (fun i a b => cpG_out (by omega))
  refine v_aload_n X dX10_appeal_4 5 rfl 0 rfl ?_
  refine v_aload_n X dX10_appeal_5 6 rfl 0 rfl ?_
  refine v_iload_n X dX10_appeal_6 7 rfl 1 rfl ?_
  refine v_muV X hM (h_mo.1) (c_X10_appeals_f1 l E b (updC mo 1 (cpG ((mo 1)) 0 10)) co k hO hR1 hI gk hf) kvX10_appeals kiX10_appeals kl_X10_115 (q0 := 0) rfl rfl (As := [.int (zI k)]) rfl rfl rfl dX10_appeal_7 10 rfl (k' := 0) (n' := 0) rfl rfl (fun q hq => hq.elim) h_mo (fun rv H2 lo2 hM hF hpo => ?_)
  subst hpo
  replace h_mo := h_mo.kept hF 5 rfl (fun q _ _ h => h.elim)
  show V p l e (rmL 3 0 0) s m args below meth cd Q 2 H2 lo2 0 0 10 [(0, .ref b), (1, .int (zI k))] [.int (zI 1), .ref b]
  refine v_iconst X dX10_appeal_10 11 rfl ?_
  refine v_iconst X dX10_appeal_11 12 rfl ?_
  refine v_iconst X dX10_appeal_12 13 rfl ?_
  refine v_iconst X dX10_appeal_13 14 rfl ?_
  refine v_muV X hM (h_mo.1) (c_X10_ends_1 l E b (updC mo 1 (cpG ((mo 1)) 0 10)) 1 0 0 2 (by omega) (by omega)) kvX10_ends kiX10_ends kl_X10_85 (q0 := 0) rfl rfl (As := [.int (zI 1), .int (zI 1), .int (zI 0), .int (zI 0), .int (zI 2)]) rfl rfl rfl dX10_appeal_14 17 rfl (k' := 0) (n' := 0) rfl rfl (fsI (fun q q1 q2 => (Or.inl (fsH (by omega) (by omega))))) h_mo (fun rv H3 lo3 hM hF hpo => ?_)
  obtain ⟨rfl, hw_0⟩ := hpo
  have h_mo : PR E b (modelW E b (updC (updC mo 0 (updZ (mo 0) 0 1)) 1 (cpG ((cpG ((mo 1)) 0 10)) 10 0))) H3 := hw_0
  show V p l e (rmL 3 0 0) s m args below meth cd Q 2 H3 lo3 0 0 17 [(0, .ref b), (1, .int (zI k))] [.int (zI 0)]
  subst hQ; exact m_iret X hr hlk hM dX10_appeal_17 rfl ⟨(cpG ((cpG ((mo 1)) 0 10)) 10 0), rfl, (by exact RelM.back hRM (fun i hi => rfl) s1), h_mo⟩
set_option maxHeartbeats 4000000 in
set_option maxRecDepth 20000 in
theorem c_X10_appeal_f4 (l : Launch) (E : Nat → Nat → Nat) (b : Nat) (mo : Nat → Int → Int) (co : Nat → Int → Int) (cv : Nat → Int → Int) (hc : Nat → Nat → Int → Int) (nx : Int) (sz : Int) (hs : Int) (k : Int) (hO : OkC co) (hI : TsI co) (hRM : RelM co cv hc nx sz hs (mo 1)) (hch : mo 0 2 = sz) (n0 : 0 ≤ nx) (n1 : nx < 8) (s0 : 0 ≤ sz) (s1 : sz ≤ 8) (gk : Rg k) (hf : flC co 5 k 0 0 = 4) : Mu l yX10_appeal cX10_appeal 2 (some .int) 3 0 0 E [(b, 5)] [.ref b, .int (zI k)] (fun H => PR E b (modelW E b mo) H) (fun rv H => ∃ g2 : Int → Int, rv = some (.int (zI 0)) ∧ RelM (co) (cv) (hc) (nx) (sz) (hs) g2 ∧ PR E b (modelW E b (updC (updC mo 0 (updZ (mo 0) 0 2)) 1 g2)) H) := by
  refine Mu.start (own := RX10) rfl (by decide +kernel) (Nat.le_of_ble_eq_true rfl) ?_
  intro p e s m below meth cd args Q hQ X hr hlk hnm hM hPr
  have h_mo := hPr
  have hb0 := hO.b0
  have hbw := hO.bw
  refine v_aload_n X dX10_appeal_0 1 rfl 0 rfl ?_
  refine v_muV X hM (h_mo.1) (c_X10_begins l E b mo) kvX10_begins kiX10_begins kl_X10_79 (q0 := 0) rfl rfl (As := []) rfl rfl rfl dX10_appeal_1 4 rfl (k' := 0) (n' := 0) rfl rfl (fsI (fun q q1 q2 => (Or.inl (fsH (by omega) (by omega))))) h_mo (fun rv H1 lo1 hM hF hpo => ?_)
  obtain ⟨rfl, hw_0⟩ := hpo
  have h_mo : PR E b (modelW E b (updC mo 1 (cpG ((mo 1)) 0 10))) H1 := hw_0
  show V p l e (rmL 3 0 0) s m args below meth cd Q 2 H1 lo1 0 0 4 [(0, .ref b), (1, .int (zI k))] []
  have hR1 : RelC co (cpG (mo 1) 0 10) := hRM.1.2.of_eq hO (fun i a b => cpG_out (by omega))
  refine v_aload_n X dX10_appeal_4 5 rfl 0 rfl ?_
  refine v_aload_n X dX10_appeal_5 6 rfl 0 rfl ?_
  refine v_iload_n X dX10_appeal_6 7 rfl 1 rfl ?_
  refine v_muV X hM (h_mo.1) (c_X10_appeals_f4 l E b (updC mo 1 (cpG ((mo 1)) 0 10)) co k hO hR1 hI gk hf) kvX10_appeals kiX10_appeals kl_X10_115 (q0 := 0) rfl rfl (As := [.int (zI k)]) rfl rfl rfl dX10_appeal_7 10 rfl (k' := 0) (n' := 0) rfl rfl (fun q hq => hq.elim) h_mo (fun rv H2 lo2 hM hF hpo => ?_)
  subst hpo
  replace h_mo := h_mo.kept hF 5 rfl (fun q _ _ h => h.elim)
  show V p l e (rmL 3 0 0) s m args below meth cd Q 2 H2 lo2 0 0 10 [(0, .ref b), (1, .int (zI k))] [.int (zI 4), .ref b]
  refine v_iconst X dX10_appeal_10 11 rfl ?_
  refine v_iconst X dX10_appeal_11 12 rfl ?_
  refine v_iconst X dX10_appeal_12 13 rfl ?_
  refine v_iconst X dX10_appeal_13 14 rfl ?_
  refine v_muV X hM (h_mo.1) (c_X10_ends_4 l E b (updC mo 1 (cpG ((mo 1)) 0 10)) 1 0 0 2 (by omega) (by omega)) kvX10_ends kiX10_ends kl_X10_85 (q0 := 0) rfl rfl (As := [.int (zI 4), .int (zI 1), .int (zI 0), .int (zI 0), .int (zI 2)]) rfl rfl rfl dX10_appeal_14 17 rfl (k' := 0) (n' := 0) rfl rfl (fsI (fun q q1 q2 => (Or.inl (fsH (by omega) (by omega))))) h_mo (fun rv H3 lo3 hM hF hpo => ?_)
  obtain ⟨rfl, hw_0⟩ := hpo
  have h_mo : PR E b (modelW E b (updC (updC mo 0 (updZ (mo 0) 0 2)) 1 (cpG ((cpG ((mo 1)) 0 10)) 10 0))) H3 := hw_0
  show V p l e (rmL 3 0 0) s m args below meth cd Q 2 H3 lo3 0 0 17 [(0, .ref b), (1, .int (zI k))] [.int (zI 0)]
  subst hQ; exact m_iret X hr hlk hM dX10_appeal_17 rfl ⟨(cpG ((cpG ((mo 1)) 0 10)) 10 0), rfl, (by exact RelM.back hRM (fun i hi => rfl) s1), h_mo⟩
set_option maxHeartbeats 4000000 in
set_option maxRecDepth 20000 in
theorem c_X10_close_ok (l : Launch) (E : Nat → Nat → Nat) (b : Nat) (mo : Nat → Int → Int) (co : Nat → Int → Int) (cv : Nat → Int → Int) (hc : Nat → Nat → Int → Int) (nx : Int) (sz : Int) (hs : Int) (k : Int) (hO : OkC co) (hI : TsI co) (hRM : RelM co cv hc nx sz hs (mo 1)) (hch : mo 0 2 = sz) (n0 : 0 ≤ nx) (n1 : nx < 8) (s0 : 0 ≤ sz) (s1 : sz ≤ 8) (gk : Rg k) (hf : flC co 6 k 0 0 = 0) (hO2 : OkC (opC co 6 k 0 0 0)) : Mu l yX10_close cX10_close 2 (some .int) 3 0 0 E [(b, 5)] [.ref b, .int (zI k)] (fun H => PR E b (modelW E b mo) H) (fun rv H => ∃ g2 : Int → Int, ∃ q4 : Int, rv = some (.int (zI (opV co 6 k 0 0 0))) ∧ RelM (opC co 6 k 0 0 0) (cv) (fun j => if j = nx.toNat then co else hc j) (if nx < 7 then nx + 1 else 0) (min (sz + 1) 8) (hs) g2 ∧ PR E b (modelW E b (updC (updC mo 0 (updZ (updZ (updZ (mo 0) 0 0) 2 (min (sz + 1) 8)) 4 q4)) 1 g2)) H) := by
  refine Mu.start (own := RX10) rfl (by decide +kernel) (Nat.le_of_ble_eq_true rfl) ?_
  intro p e s m below meth cd args Q hQ X hr hlk hnm hM hPr
  have h_mo := hPr
  have hb0 := hO.b0
  have hbw := hO.bw
  refine v_aload_n X dX10_close_0 1 rfl 0 rfl ?_
  refine v_muV X hM (h_mo.1) (c_X10_begins l E b mo) kvX10_begins kiX10_begins kl_X10_79 (q0 := 0) rfl rfl (As := []) rfl rfl rfl dX10_close_1 4 rfl (k' := 0) (n' := 0) rfl rfl (fsI (fun q q1 q2 => (Or.inl (fsH (by omega) (by omega))))) h_mo (fun rv H1 lo1 hM hF hpo => ?_)
  obtain ⟨rfl, hw_0⟩ := hpo
  have h_mo : PR E b (modelW E b (updC mo 1 (cpG ((mo 1)) 0 10))) H1 := hw_0
  show V p l e (rmL 3 0 0) s m args below meth cd Q 2 H1 lo1 0 0 4 [(0, .ref b), (1, .int (zI k))] []
  have hR1 : RelC co (cpG (mo 1) 0 10) := hRM.1.2.of_eq hO (fun i a b => cpG_out (by omega))
  refine v_aload_n X dX10_close_4 5 rfl 0 rfl ?_
  refine v_aload_n X dX10_close_5 6 rfl 0 rfl ?_
  refine v_iload_n X dX10_close_6 7 rfl 1 rfl ?_
  refine v_muV X hM (h_mo.1) (c_X10_closes_ok l E b (updC mo 1 (cpG ((mo 1)) 0 10)) co k hO hR1 hI gk hf) kvX10_closes kiX10_closes kl_X10_121 (q0 := 0) rfl rfl (As := [.int (zI k)]) rfl rfl rfl dX10_close_7 10 rfl (k' := 0) (n' := 0) rfl rfl (fsI (fun q q1 q2 => (Or.inl (fsH (by omega) (by omega))))) h_mo (fun rv H2 lo2 hM hF hpo => ?_)
  obtain ⟨g1_3, rfl, hp_f_4, hp_f_5, hw_0⟩ := hpo
  have h_mo : PR E b (modelW E b (updC (updC mo 0 (updZ (mo 0) 4 (opV co 6 k 0 0 0))) 1 g1_3)) H2 := hw_0
  show V p l e (rmL 3 0 0) s m args below meth cd Q 2 H2 lo2 0 0 10 [(0, .ref b), (1, .int (zI k))] [.int (zI 0), .ref b]
  refine v_iconst X dX10_close_10 11 rfl ?_
  refine v_iconst X dX10_close_11 12 rfl ?_
  refine v_iconst X dX10_close_12 13 rfl ?_
  refine v_iconst X dX10_close_13 14 rfl ?_
  refine v_muV X hM (h_mo.1) (c_X10_ends_0 l E b (updC (updC mo 0 (updZ (mo 0) 4 (opV co 6 k 0 0 0))) 1 g1_3) 1 0 0 2 sz hch s0 s1) kvX10_ends kiX10_ends kl_X10_85 (q0 := 0) rfl rfl (As := [.int (zI 0), .int (zI 1), .int (zI 0), .int (zI 0), .int (zI 2)]) rfl rfl rfl dX10_close_14 17 rfl (k' := 0) (n' := 0) rfl rfl (fsI (fun q q1 q2 => (Or.inl (fsH (by omega) (by omega))))) h_mo (fun rv H6 lo6 hM hF hpo => ?_)
  obtain ⟨rfl, hw_0⟩ := hpo
  have h_mo : PR E b (modelW E b (updC (updC mo 0 (updZ (updZ (updZ (mo 0) 0 0) 2 (min (sz + 1) 8)) 4 (opV co 6 k 0 0 0))) 1 (endG (g1_3) sz))) H6 := hw_0
  show V p l e (rmL 3 0 0) s m args below meth cd Q 2 H6 lo6 0 0 17 [(0, .ref b), (1, .int (zI k))] [.int (zI (opV co 6 k 0 0 0))]
  have hb_7 := hO.b6 k
  subst hQ; exact m_iret X hr hlk hM dX10_close_17 rfl ⟨(endG (g1_3) sz), (opV co 6 k 0 0 0), rfl, (by exact RelM.push hRM ⟨hO2, hp_f_4⟩ hp_f_5 n0 n1 s0 s1), h_mo⟩
set_option maxHeartbeats 4000000 in
set_option maxRecDepth 20000 in
theorem c_X10_close_f1 (l : Launch) (E : Nat → Nat → Nat) (b : Nat) (mo : Nat → Int → Int) (co : Nat → Int → Int) (cv : Nat → Int → Int) (hc : Nat → Nat → Int → Int) (nx : Int) (sz : Int) (hs : Int) (k : Int) (hO : OkC co) (hI : TsI co) (hRM : RelM co cv hc nx sz hs (mo 1)) (hch : mo 0 2 = sz) (n0 : 0 ≤ nx) (n1 : nx < 8) (s0 : 0 ≤ sz) (s1 : sz ≤ 8) (gk : Rg k) (hf : flC co 6 k 0 0 = 1) : Mu l yX10_close cX10_close 2 (some .int) 3 0 0 E [(b, 5)] [.ref b, .int (zI k)] (fun H => PR E b (modelW E b mo) H) (fun rv H => ∃ g2 : Int → Int, rv = some (.int (zI 0)) ∧ RelM (co) (cv) (hc) (nx) (sz) (hs) g2 ∧ PR E b (modelW E b (updC (updC mo 0 (updZ (mo 0) 0 1)) 1 g2)) H) := by
  refine Mu.start (own := RX10) rfl (by decide +kernel) (Nat.le_of_ble_eq_true rfl) ?_
  intro p e s m below meth cd args Q hQ X hr hlk hnm hM hPr
  have h_mo := hPr
  have hb0 := hO.b0
  have hbw := hO.bw
  refine v_aload_n X dX10_close_0 1 rfl 0 rfl ?_
  refine v_muV X hM (h_mo.1) (c_X10_begins l E b mo) kvX10_begins kiX10_begins kl_X10_79 (q0 := 0) rfl rfl (As := []) rfl rfl rfl dX10_close_1 4 rfl (k' := 0) (n' := 0) rfl rfl (fsI (fun q q1 q2 => (Or.inl (fsH (by omega) (by omega))))) h_mo (fun rv H1 lo1 hM hF hpo => ?_)
  obtain ⟨rfl, hw_0⟩ := hpo
  have h_mo : PR E b (modelW E b (updC mo 1 (cpG ((mo 1)) 0 10))) H1 := hw_0
  show V p l e (rmL 3 0 0) s m args below meth cd Q 2 H1 lo1 0 0 4 [(0, .ref b), (1, .int (zI k))] []
  have hR1 : RelC co (cpG (mo 1) 0 10) := hRM.1.2.of_eq hO (fun i a b => cpG_out (by omega))
  refine v_aload_n X dX10_close_4 5 rfl 0 rfl ?_
  refine v_aload_n X dX10_close_5 6 rfl 0 rfl ?_
  refine v_iload_n X dX10_close_6 7 rfl 1 rfl ?_
  refine v_muV X hM (h_mo.1) (c_X10_closes_f1 l E b (updC mo 1 (cpG ((mo 1)) 0 10)) co k hO hR1 hI gk hf) kvX10_closes kiX10_closes kl_X10_121 (q0 := 0) rfl rfl (As := [.int (zI k)]) rfl rfl rfl dX10_close_7 10 rfl (k' := 0) (n' := 0) rfl rfl (fun q hq => hq.elim) h_mo (fun rv H2 lo2 hM hF hpo => ?_)
  subst hpo
  replace h_mo := h_mo.kept hF 5 rfl (fun q _ _ h => h.elim)
  show V p l e (rmL 3 0 0) s m args below meth cd Q 2 H2 lo2 0 0 10 [(0, .ref b), (1, .int (zI k))] [.int (zI 1), .ref b]
  refine v_iconst X dX10_close_10 11 rfl ?_
  refine v_iconst X dX10_close_11 12 rfl ?_
  refine v_iconst X dX10_close_12 13 rfl ?_
  refine v_iconst X dX10_close_13 14 rfl ?_
  refine v_muV X hM (h_mo.1) (c_X10_ends_1 l E b (updC mo 1 (cpG ((mo 1)) 0 10)) 1 0 0 2 (by omega) (by omega)) kvX10_ends kiX10_ends kl_X10_85 (q0 := 0) rfl rfl (As := [.int (zI 1), .int (zI 1), .int (zI 0), .int (zI 0), .int (zI 2)]) rfl rfl rfl dX10_close_14 17 rfl (k' := 0) (n' := 0) rfl rfl (fsI (fun q q1 q2 => (Or.inl (fsH (by omega) (by omega))))) h_mo (fun rv H3 lo3 hM hF hpo => ?_)
  obtain ⟨rfl, hw_0⟩ := hpo
  have h_mo : PR E b (modelW E b (updC (updC mo 0 (updZ (mo 0) 0 1)) 1 (cpG ((cpG ((mo 1)) 0 10)) 10 0))) H3 := hw_0
  show V p l e (rmL 3 0 0) s m args below meth cd Q 2 H3 lo3 0 0 17 [(0, .ref b), (1, .int (zI k))] [.int (zI 0)]
  subst hQ; exact m_iret X hr hlk hM dX10_close_17 rfl ⟨(cpG ((cpG ((mo 1)) 0 10)) 10 0), rfl, (by exact RelM.back hRM (fun i hi => rfl) s1), h_mo⟩
set_option maxHeartbeats 4000000 in
set_option maxRecDepth 20000 in
theorem c_X10_close_f4 (l : Launch) (E : Nat → Nat → Nat) (b : Nat) (mo : Nat → Int → Int) (co : Nat → Int → Int) (cv : Nat → Int → Int) (hc : Nat → Nat → Int → Int) (nx : Int) (sz : Int) (hs : Int) (k : Int) (hO : OkC co) (hI : TsI co) (hRM : RelM co cv hc nx sz hs (mo 1)) (hch : mo 0 2 = sz) (n0 : 0 ≤ nx) (n1 : nx < 8) (s0 : 0 ≤ sz) (s1 : sz ≤ 8) (gk : Rg k) (hf : flC co 6 k 0 0 = 4) : Mu l yX10_close cX10_close 2 (some .int) 3 0 0 E [(b, 5)] [.ref b, .int (zI k)] (fun H => PR E b (modelW E b mo) H) (fun rv H => ∃ g2 : Int → Int, rv = some (.int (zI 0)) ∧ RelM (co) (cv) (hc) (nx) (sz) (hs) g2 ∧ PR E b (modelW E b (updC (updC mo 0 (updZ (mo 0) 0 2)) 1 g2)) H) := by
  refine Mu.start (own := RX10) rfl (by decide +kernel) (Nat.le_of_ble_eq_true rfl) ?_
  intro p e s m below meth cd args Q hQ X hr hlk hnm hM hPr
  have h_mo := hPr
  have hb0 := hO.b0
  have hbw := hO.bw
  refine v_aload_n X dX10_close_0 1 rfl 0 rfl ?_
  refine v_muV X hM (h_mo.1) (c_X10_begins l E b mo) kvX10_begins kiX10_begins kl_X10_79 (q0 := 0) rfl rfl (As := []) rfl rfl rfl dX10_close_1 4 rfl (k' := 0) (n' := 0) rfl rfl (fsI (fun q q1 q2 => (Or.inl (fsH (by omega) (by omega))))) h_mo (fun rv H1 lo1 hM hF hpo => ?_)
  obtain ⟨rfl, hw_0⟩ := hpo
  have h_mo : PR E b (modelW E b (updC mo 1 (cpG ((mo 1)) 0 10))) H1 := hw_0
  show V p l e (rmL 3 0 0) s m args below meth cd Q 2 H1 lo1 0 0 4 [(0, .ref b), (1, .int (zI k))] []
  have hR1 : RelC co (cpG (mo 1) 0 10) := hRM.1.2.of_eq hO (fun i a b => cpG_out (by omega))
  refine v_aload_n X dX10_close_4 5 rfl 0 rfl ?_
  refine v_aload_n X dX10_close_5 6 rfl 0 rfl ?_
  refine v_iload_n X dX10_close_6 7 rfl 1 rfl ?_
  refine v_muV X hM (h_mo.1) (c_X10_closes_f4 l E b (updC mo 1 (cpG ((mo 1)) 0 10)) co k hO hR1 hI gk hf) kvX10_closes kiX10_closes kl_X10_121 (q0 := 0) rfl rfl (As := [.int (zI k)]) rfl rfl rfl dX10_close_7 10 rfl (k' := 0) (n' := 0) rfl rfl (fun q hq => hq.elim) h_mo (fun rv H2 lo2 hM hF hpo => ?_)
  subst hpo
  replace h_mo := h_mo.kept hF 5 rfl (fun q _ _ h => h.elim)
  show V p l e (rmL 3 0 0) s m args below meth cd Q 2 H2 lo2 0 0 10 [(0, .ref b), (1, .int (zI k))] [.int (zI 4), .ref b]
  refine v_iconst X dX10_close_10 11 rfl ?_
  refine v_iconst X dX10_close_11 12 rfl ?_
  refine v_iconst X dX10_close_12 13 rfl ?_
  refine v_iconst X dX10_close_13 14 rfl ?_
  refine v_muV X hM (h_mo.1) (c_X10_ends_4 l E b (updC mo 1 (cpG ((mo 1)) 0 10)) 1 0 0 2 (by omega) (by omega)) kvX10_ends kiX10_ends kl_X10_85 (q0 := 0) rfl rfl (As := [.int (zI 4), .int (zI 1), .int (zI 0), .int (zI 0), .int (zI 2)]) rfl rfl rfl dX10_close_14 17 rfl (k' := 0) (n' := 0) rfl rfl (fsI (fun q q1 q2 => (Or.inl (fsH (by omega) (by omega))))) h_mo (fun rv H3 lo3 hM hF hpo => ?_)
  obtain ⟨rfl, hw_0⟩ := hpo
  have h_mo : PR E b (modelW E b (updC (updC mo 0 (updZ (mo 0) 0 2)) 1 (cpG ((cpG ((mo 1)) 0 10)) 10 0))) H3 := hw_0
  show V p l e (rmL 3 0 0) s m args below meth cd Q 2 H3 lo3 0 0 17 [(0, .ref b), (1, .int (zI k))] [.int (zI 0)]
  subst hQ; exact m_iret X hr hlk hM dX10_close_17 rfl ⟨(cpG ((cpG ((mo 1)) 0 10)) 10 0), rfl, (by exact RelM.back hRM (fun i hi => rfl) s1), h_mo⟩
set_option maxHeartbeats 4000000 in
set_option maxRecDepth 20000 in
theorem c_X10_undo (l : Launch) (E : Nat → Nat → Nat) (b : Nat) (mo : Nat → Int → Int) (co : Nat → Int → Int) (cv : Nat → Int → Int) (hc : Nat → Nat → Int → Int) (nx : Int) (sz : Int) (hs : Int) (hO : OkC co) (hRM : RelM co cv hc nx sz hs (mo 1)) (hch : mo 0 2 = sz) (n0 : 0 ≤ nx) (n1 : nx < 8) (s0 : 0 ≤ sz) (s1 : sz ≤ 8) (p0 : ¬ sz = 0) : Mu l yX10_undo cX10_undo 1 (some .int) 1 0 0 E [(b, 5)] [.ref b] (fun H => PR E b (modelW E b mo) H) (fun rv H => ∃ g2 : Int → Int, rv = some (.int (zI (sz - 1))) ∧ RelM (hc (if 0 < nx then nx - 1 else 7).toNat) (cv) (hc) (if 0 < nx then nx - 1 else 7) (sz - 1) (hs) g2 ∧ PR E b (modelW E b (updC (updC mo 0 (updZ (updZ (mo 0) 0 0) 2 (sz - 1))) 1 g2)) H) := by
  refine Mu.start (own := RX10) rfl (by decide +kernel) (Nat.le_of_ble_eq_true rfl) ?_
  intro p e s m below meth cd args Q hQ X hr hlk hnm hM hPr
  have h_mo := hPr
  have hb0 := hO.b0
  have hbw := hO.bw
  have hR := hRM.1.2
  have hr0 := hR.s0
  refine v_aload_n X dX10_undo_0 1 rfl 0 rfl ?_
  refine v_aload_n X dX10_undo_1 2 rfl 0 rfl ?_
  refine v_getf X hM.C h_mo.1 inX10 0 rfl rfl 2 (by decide) kf_X10_37 (fun _ h => h) rfl dX10_undo_2 5 rfl ?_
  show V p l e (rmL 1 0 0) s m args below meth cd Q 1 s.heap [] 0 0 5 [(0, .ref b)] [.int (zI (mo 0 2)), .ref b]
  refine v_if_le X (by omega) dX10_undo_5 8 12 rfl (by decide) (fun c_1 => ?_) (fun c_1 => ?_)
  · skip
    refine v_iconst X dX10_undo_12 13 rfl ?_
    refine v_muV X hM (h_mo.1) (c_X10_isFine_0 l E b mo) kvX10_isFine kiX10_isFine kl_X10_124 (q0 := 0) rfl rfl (As := [.int (zI 0)]) rfl rfl rfl dX10_undo_13 16 rfl (k' := 0) (n' := 0) rfl rfl (fsI (fun q q1 q2 => (Or.inl (fsH (by omega) (by omega))))) h_mo (fun rv H2 lo2 hM hF hpo => ?_)
    obtain ⟨rfl, hw_0⟩ := hpo
    have h_mo : PR E b (modelW E b (updC mo 0 (updZ (mo 0) 0 1))) H2 := hw_0
    show V p l e (rmL 1 0 0) s m args below meth cd Q 1 H2 lo2 0 0 16 [(0, .ref b)] [.int (zI 0)]
    refine v_if_ne X (by omega) dX10_undo_16 19 21 rfl (by decide) (fun c_3 => ?_) (fun c_3 => ?_)
    · skip
      exfalso; omega
    · skip
      refine v_iconst X dX10_undo_19 20 rfl ?_
      exfalso; omega
  · skip
    refine v_iconst X dX10_undo_8 9 rfl ?_
    refine v_goto X dX10_undo_9 13 (by decide) ?_
    refine v_muV X hM (h_mo.1) (c_X10_isFine_1 l E b mo) kvX10_isFine kiX10_isFine kl_X10_124 (q0 := 0) rfl rfl (As := [.int (zI 1)]) rfl rfl rfl dX10_undo_13 16 rfl (k' := 0) (n' := 0) rfl rfl (fsI (fun q q1 q2 => (Or.inl (fsH (by omega) (by omega))))) h_mo (fun rv H4 lo4 hM hF hpo => ?_)
    obtain ⟨rfl, hw_0⟩ := hpo
    have h_mo : PR E b (modelW E b (updC mo 0 (updZ (mo 0) 0 0))) H4 := hw_0
    show V p l e (rmL 1 0 0) s m args below meth cd Q 1 H4 lo4 0 0 16 [(0, .ref b)] [.int (zI 1)]
    refine v_if_ne X (by omega) dX10_undo_16 19 21 rfl (by decide) (fun c_5 => ?_) (fun c_5 => ?_)
    · skip
      refine v_aload_n X dX10_undo_21 22 rfl 0 rfl ?_
      refine v_aload_n X dX10_undo_22 23 rfl 0 rfl ?_
      refine v_getf X hM.C h_mo.1 inX10 0 rfl rfl 2 (by decide) kf_X10_37 (fun _ h => h) rfl dX10_undo_23 26 rfl ?_
      show V p l e (rmL 1 0 0) s m args below meth cd Q 1 H4 lo4 0 0 26 [(0, .ref b)] [.int (zI (mo 0 2)), .ref b]
      refine v_iconst X dX10_undo_26 27 rfl ?_
      refine V_S (st' := [.int (zI 0), .int (zI sz), .ref b]) (by rw [hch]) ?_
      refine v_muV X hM (h_mo.1) (c_X10_copies l E b (updC mo 0 (updZ (mo 0) 0 0)) sz 0 s0 (by omega) (by omega) (by omega) p0) kvX10_copies kiX10_copies kl_X10_33 (q0 := 0) rfl rfl (As := [.int (zI sz), .int (zI 0)]) rfl rfl rfl dX10_undo_27 30 rfl (k' := 0) (n' := 0) rfl rfl (fsI (fun q q1 q2 => (Or.inl (fsH (by omega) (by omega))))) h_mo (fun rv H6 lo6 hM hF hpo => ?_)
      obtain ⟨rfl, hw_0⟩ := hpo
      have h_mo : PR E b (modelW E b (updC (updC mo 0 (updZ (mo 0) 0 0)) 1 (cpG ((mo 1)) sz 0))) H6 := hw_0
      show V p l e (rmL 1 0 0) s m args below meth cd Q 1 H6 lo6 0 0 30 [(0, .ref b)] []
      refine v_aload_n X dX10_undo_30 31 rfl 0 rfl ?_
      refine v_dup X dX10_undo_31 32 rfl rfl ?_
      refine v_getf X hM.C h_mo.1 inX10 0 rfl rfl 2 (by decide) kf_X10_37 (fun _ h => h) rfl dX10_undo_32 35 rfl ?_
      show V p l e (rmL 1 0 0) s m args below meth cd Q 1 H6 lo6 0 0 35 [(0, .ref b)] [.int (zI (mo 0 2)), .ref b]
      refine v_iconst X dX10_undo_35 36 rfl ?_
      refine v_isub X dX10_undo_36 37 rfl ?_
      refine v_putf X hM h_mo ftX10 0 rfl rfl 2 (by decide) kf_X10_37 (fun _ h => h) rfl rfl rfl (Nat.le_of_ble_eq_true rfl) (Or.inl (fsH (by omega) (by omega))) dX10_undo_37 40 rfl (ws' := modelW E b (updC (updC mo 0 (updZ (updZ (mo 0) 0 0) 2 (mo 0 2 - 1))) 1 (cpG ((mo 1)) sz 0))) rfl (fun H7 lo7 hzz hM hF h_mo => ?_)
      clear hzz
      refine v_aload_n X dX10_undo_40 41 rfl 0 rfl ?_
      refine v_getf X hM.C h_mo.1 inX10 0 rfl rfl 2 (by decide) kf_X10_37 (fun _ h => h) rfl dX10_undo_41 44 rfl ?_
      show V p l e (rmL 1 0 0) s m args below meth cd Q 1 H7 lo7 0 0 44 [(0, .ref b)] [.int (zI (mo 0 2 - 1))]
      subst hQ; exact m_iret X hr hlk hM dX10_undo_44 rfl ⟨(cpG ((mo 1)) sz 0), (sv (by omega)), (by exact RelM.undo hRM n0 n1 (by omega) s1), (PR.to h_mo (by rw [show mo 0 2 - 1 = sz - 1 by omega]))⟩
    · skip
      exfalso; omega
set_option maxHeartbeats 4000000 in
set_option maxRecDepth 20000 in
theorem c_X10_undo_0 (l : Launch) (E : Nat → Nat → Nat) (b : Nat) (mo : Nat → Int → Int) (co : Nat → Int → Int) (cv : Nat → Int → Int) (hc : Nat → Nat → Int → Int) (nx : Int) (sz : Int) (hs : Int) (hO : OkC co) (hRM : RelM co cv hc nx sz hs (mo 1)) (hch : mo 0 2 = sz) (n0 : 0 ≤ nx) (n1 : nx < 8) (s0 : 0 ≤ sz) (s1 : sz ≤ 8) (nk : ¬ (¬ sz = 0)) : Mu l yX10_undo cX10_undo 1 (some .int) 1 0 0 E [(b, 5)] [.ref b] (fun H => PR E b (modelW E b mo) H) (fun rv H => ∃ g2 : Int → Int, rv = some (.int (zI 0)) ∧ RelM (co) (cv) (hc) (nx) (sz) (hs) g2 ∧ PR E b (modelW E b (updC (updC mo 0 (updZ (mo 0) 0 1)) 1 g2)) H) := by
  refine Mu.start (own := RX10) rfl (by decide +kernel) (Nat.le_of_ble_eq_true rfl) ?_
  intro p e s m below meth cd args Q hQ X hr hlk hnm hM hPr
  have h_mo := hPr
  have hb0 := hO.b0
  have hbw := hO.bw
  have hR := hRM.1.2
  have hr0 := hR.s0
  refine v_aload_n X dX10_undo_0 1 rfl 0 rfl ?_
  refine v_aload_n X dX10_undo_1 2 rfl 0 rfl ?_
  refine v_getf X hM.C h_mo.1 inX10 0 rfl rfl 2 (by decide) kf_X10_37 (fun _ h => h) rfl dX10_undo_2 5 rfl ?_
  show V p l e (rmL 1 0 0) s m args below meth cd Q 1 s.heap [] 0 0 5 [(0, .ref b)] [.int (zI (mo 0 2)), .ref b]
  refine v_if_le X (by omega) dX10_undo_5 8 12 rfl (by decide) (fun c_1 => ?_) (fun c_1 => ?_)
  · skip
    refine v_iconst X dX10_undo_12 13 rfl ?_
    refine v_muV X hM (h_mo.1) (c_X10_isFine_0 l E b mo) kvX10_isFine kiX10_isFine kl_X10_124 (q0 := 0) rfl rfl (As := [.int (zI 0)]) rfl rfl rfl dX10_undo_13 16 rfl (k' := 0) (n' := 0) rfl rfl (fsI (fun q q1 q2 => (Or.inl (fsH (by omega) (by omega))))) h_mo (fun rv H2 lo2 hM hF hpo => ?_)
    obtain ⟨rfl, hw_0⟩ := hpo
    have h_mo : PR E b (modelW E b (updC mo 0 (updZ (mo 0) 0 1))) H2 := hw_0
    show V p l e (rmL 1 0 0) s m args below meth cd Q 1 H2 lo2 0 0 16 [(0, .ref b)] [.int (zI 0)]
    refine v_if_ne X (by omega) dX10_undo_16 19 21 rfl (by decide) (fun c_3 => ?_) (fun c_3 => ?_)
    · skip
      exfalso; omega
    · skip
      refine v_iconst X dX10_undo_19 20 rfl ?_
      subst hQ; exact m_iret X hr hlk hM dX10_undo_20 rfl ⟨(mo 1), rfl, (by exact hRM), h_mo⟩
  · skip
    refine v_iconst X dX10_undo_8 9 rfl ?_
    refine v_goto X dX10_undo_9 13 (by decide) ?_
    refine v_muV X hM (h_mo.1) (c_X10_isFine_1 l E b mo) kvX10_isFine kiX10_isFine kl_X10_124 (q0 := 0) rfl rfl (As := [.int (zI 1)]) rfl rfl rfl dX10_undo_13 16 rfl (k' := 0) (n' := 0) rfl rfl (fsI (fun q q1 q2 => (Or.inl (fsH (by omega) (by omega))))) h_mo (fun rv H4 lo4 hM hF hpo => ?_)
    obtain ⟨rfl, hw_0⟩ := hpo
    have h_mo : PR E b (modelW E b (updC mo 0 (updZ (mo 0) 0 0))) H4 := hw_0
    show V p l e (rmL 1 0 0) s m args below meth cd Q 1 H4 lo4 0 0 16 [(0, .ref b)] [.int (zI 1)]
    refine v_if_ne X (by omega) dX10_undo_16 19 21 rfl (by decide) (fun c_5 => ?_) (fun c_5 => ?_)
    · skip
      refine v_aload_n X dX10_undo_21 22 rfl 0 rfl ?_
      refine v_aload_n X dX10_undo_22 23 rfl 0 rfl ?_
      refine v_getf X hM.C h_mo.1 inX10 0 rfl rfl 2 (by decide) kf_X10_37 (fun _ h => h) rfl dX10_undo_23 26 rfl ?_
      show V p l e (rmL 1 0 0) s m args below meth cd Q 1 H4 lo4 0 0 26 [(0, .ref b)] [.int (zI (mo 0 2)), .ref b]
      refine v_iconst X dX10_undo_26 27 rfl ?_
      refine v_muV X hM (h_mo.1) (c_X10_copies l E b (updC mo 0 (updZ (mo 0) 0 0)) (mo 0 2) 0 (by omega) (by omega) (by omega) (by omega) (by omega)) kvX10_copies kiX10_copies kl_X10_33 (q0 := 0) rfl rfl (As := [.int (zI (mo 0 2)), .int (zI 0)]) rfl rfl rfl dX10_undo_27 30 rfl (k' := 0) (n' := 0) rfl rfl (fsI (fun q q1 q2 => (Or.inl (fsH (by omega) (by omega))))) h_mo (fun rv H6 lo6 hM hF hpo => ?_)
      obtain ⟨rfl, hw_0⟩ := hpo
      have h_mo : PR E b (modelW E b (updC (updC mo 0 (updZ (mo 0) 0 0)) 1 (cpG ((mo 1)) (mo 0 2) 0))) H6 := hw_0
      show V p l e (rmL 1 0 0) s m args below meth cd Q 1 H6 lo6 0 0 30 [(0, .ref b)] []
      refine v_aload_n X dX10_undo_30 31 rfl 0 rfl ?_
      refine v_dup X dX10_undo_31 32 rfl rfl ?_
      refine v_getf X hM.C h_mo.1 inX10 0 rfl rfl 2 (by decide) kf_X10_37 (fun _ h => h) rfl dX10_undo_32 35 rfl ?_
      show V p l e (rmL 1 0 0) s m args below meth cd Q 1 H6 lo6 0 0 35 [(0, .ref b)] [.int (zI (mo 0 2)), .ref b]
      refine v_iconst X dX10_undo_35 36 rfl ?_
      refine v_isub X dX10_undo_36 37 rfl ?_
      refine v_putf X hM h_mo ftX10 0 rfl rfl 2 (by decide) kf_X10_37 (fun _ h => h) rfl rfl rfl (Nat.le_of_ble_eq_true rfl) (Or.inl (fsH (by omega) (by omega))) dX10_undo_37 40 rfl (ws' := modelW E b (updC (updC mo 0 (updZ (updZ (mo 0) 0 0) 2 (mo 0 2 - 1))) 1 (cpG ((mo 1)) (mo 0 2) 0))) rfl (fun H7 lo7 hzz hM hF h_mo => ?_)
      clear hzz
      refine v_aload_n X dX10_undo_40 41 rfl 0 rfl ?_
      refine v_getf X hM.C h_mo.1 inX10 0 rfl rfl 2 (by decide) kf_X10_37 (fun _ h => h) rfl dX10_undo_41 44 rfl ?_
      show V p l e (rmL 1 0 0) s m args below meth cd Q 1 H7 lo7 0 0 44 [(0, .ref b)] [.int (zI (mo 0 2 - 1))]
      exfalso; omega
    · skip
      exfalso; omega
set_option maxHeartbeats 4000000 in
set_option maxRecDepth 20000 in
theorem c_X10_save (l : Launch) (E : Nat → Nat → Nat) (b : Nat) (mo : Nat → Int → Int) (co : Nat → Int → Int) (cv : Nat → Int → Int) (hc : Nat → Nat → Int → Int) (nx : Int) (sz : Int) (hs : Int) (hO : OkC co) (hRM : RelM co cv hc nx sz hs (mo 1)) (hch : mo 0 2 = sz) (n0 : 0 ≤ nx) (n1 : nx < 8) (s0 : 0 ≤ sz) (s1 : sz ≤ 8) : Mu l yX10_save cX10_save 1 (some .int) 1 0 0 E [(b, 5)] [.ref b] (fun H => PR E b (modelW E b mo) H) (fun rv H => ∃ g2 : Int → Int, rv = some (.int (zI (co 0 0))) ∧ RelM (co) (co) (hc) (nx) (sz) (1) g2 ∧ PR E b (modelW E b (updC (updC mo 0 (updZ (updZ (mo 0) 0 0) 3 1)) 1 g2)) H) := by
  refine Mu.start (own := RX10) rfl (by decide +kernel) (Nat.le_of_ble_eq_true rfl) ?_
  intro p e s m below meth cd args Q hQ X hr hlk hnm hM hPr
  have h_mo := hPr
  have hb0 := hO.b0
  have hbw := hO.bw
  have hR := hRM.1.2
  have hr0 := hR.s0
  refine v_aload_n X dX10_save_0 1 rfl 0 rfl ?_
  refine v_iconst X dX10_save_1 2 rfl ?_
  refine v_putf X hM h_mo ftX10 0 rfl rfl 0 (by decide) kf_X10_30 (fun _ h => h) rfl rfl rfl (Nat.le_of_ble_eq_true rfl) (Or.inl (fsH (by omega) (by omega))) dX10_save_2 5 rfl (ws' := modelW E b (updC mo 0 (updZ (mo 0) 0 0))) rfl (fun H1 lo1 hzz hM hF h_mo => ?_)
  clear hzz
  refine v_aload_n X dX10_save_5 6 rfl 0 rfl ?_
  refine v_iconst X dX10_save_6 7 rfl ?_
  refine v_putf X hM h_mo ftX10 0 rfl rfl 3 (by decide) kf_X10_213 (fun _ h => h) rfl rfl rfl (Nat.le_of_ble_eq_true rfl) (Or.inl (fsH (by omega) (by omega))) dX10_save_7 10 rfl (ws' := modelW E b (updC mo 0 (updZ (updZ (mo 0) 0 0) 3 1))) rfl (fun H2 lo2 hzz hM hF h_mo => ?_)
  clear hzz
  refine v_aload_n X dX10_save_10 11 rfl 0 rfl ?_
  refine v_iconst X dX10_save_11 12 rfl ?_
  refine v_bipush X dX10_save_12 14 rfl rfl ?_
  refine v_muV X hM (h_mo.1) (c_X10_copies l E b (updC mo 0 (updZ (updZ (mo 0) 0 0) 3 1)) 0 9 (by omega) (by omega) (by omega) (by omega) (by omega)) kvX10_copies kiX10_copies kl_X10_33 (q0 := 0) rfl rfl (As := [.int (zI 0), .int (zI 9)]) rfl rfl rfl dX10_save_14 17 rfl (k' := 0) (n' := 0) rfl rfl (fsI (fun q q1 q2 => (Or.inl (fsH (by omega) (by omega))))) h_mo (fun rv H3 lo3 hM hF hpo => ?_)
  obtain ⟨rfl, hw_0⟩ := hpo
  have h_mo : PR E b (modelW E b (updC (updC mo 0 (updZ (updZ (mo 0) 0 0) 3 1)) 1 (cpG ((mo 1)) 0 9))) H3 := hw_0
  show V p l e (rmL 1 0 0) s m args below meth cd Q 1 H3 lo3 0 0 17 [(0, .ref b)] []
  refine v_aload_n X dX10_save_17 18 rfl 0 rfl ?_
  refine v_getf X hM.C h_mo.1 inX10 0 rfl rfl 1 (by decide) kf_X10_9 (fun _ h => h) rfl dX10_save_18 21 rfl ?_
  refine v_iconst X dX10_save_21 22 rfl ?_
  refine v_iald X hM.C h_mo.1 1 rfl (by omega) (by omega) (by omega) dX10_save_22 23 rfl ?_
  show V p l e (rmL 1 0 0) s m args below meth cd Q 1 H3 lo3 0 0 23 [(0, .ref b)] [.int (zI ((cpG (mo 1) 0 9) 0))]
  subst hQ; exact m_iret X hr hlk hM dX10_save_23 rfl ⟨(cpG ((mo 1)) 0 9), (sv (by first | (rw [cpG_out (by omega)]; exact hr0.symm) | omega)), (by exact RelM.save hRM s1), h_mo⟩
set_option maxHeartbeats 4000000 in
set_option maxRecDepth 20000 in
theorem c_X10_restore (l : Launch) (E : Nat → Nat → Nat) (b : Nat) (mo : Nat → Int → Int) (co : Nat → Int → Int) (cv : Nat → Int → Int) (hc : Nat → Nat → Int → Int) (nx : Int) (sz : Int) (hs : Int) (hO : OkC co) (hRM : RelM co cv hc nx sz hs (mo 1)) (hch : mo 0 2 = sz) (n0 : 0 ≤ nx) (n1 : nx < 8) (s0 : 0 ≤ sz) (s1 : sz ≤ 8) (he : mo 0 3 = hs) (gh : hs = 0 ∨ hs = 1) (p0 : hs = 1) : Mu l yX10_restore cX10_restore 1 (some .int) 1 0 0 E [(b, 5)] [.ref b] (fun H => PR E b (modelW E b mo) H) (fun rv H => ∃ g2 : Int → Int, rv = some (.int (zI (cv 0 0))) ∧ RelM (cv) (cv) (hc) (nx) (0) (hs) g2 ∧ PR E b (modelW E b (updC (updC mo 0 (updZ (updZ (mo 0) 0 0) 2 0)) 1 g2)) H) := by
  refine Mu.start (own := RX10) rfl (by decide +kernel) (Nat.le_of_ble_eq_true rfl) ?_
  intro p e s m below meth cd args Q hQ X hr hlk hnm hM hPr
  have h_mo := hPr
  have hb0 := hO.b0
  have hbw := hO.bw
  have hR := hRM.1.2
  have hr0 := hR.s0
  refine v_aload_n X dX10_restore_0 1 rfl 0 rfl ?_
  refine v_aload_n X dX10_restore_1 2 rfl 0 rfl ?_
  refine v_getf X hM.C h_mo.1 inX10 0 rfl rfl 3 (by decide) kf_X10_213 (fun _ h => h) rfl dX10_restore_2 5 rfl ?_
  show V p l e (rmL 1 0 0) s m args below meth cd Q 1 s.heap [] 0 0 5 [(0, .ref b)] [.int (zI (mo 0 3)), .ref b]
  refine V_S (st' := [.int (zI 1), .ref b]) (by rw [show mo 0 3 = 1 by omega]) ?_
  refine v_muV X hM (h_mo.1) (c_X10_isFine_1 l E b mo) kvX10_isFine kiX10_isFine kl_X10_124 (q0 := 0) rfl rfl (As := [.int (zI 1)]) rfl rfl rfl dX10_restore_5 8 rfl (k' := 0) (n' := 0) rfl rfl (fsI (fun q q1 q2 => (Or.inl (fsH (by omega) (by omega))))) h_mo (fun rv H1 lo1 hM hF hpo => ?_)
  obtain ⟨rfl, hw_0⟩ := hpo
  have h_mo : PR E b (modelW E b (updC mo 0 (updZ (mo 0) 0 0))) H1 := hw_0
  show V p l e (rmL 1 0 0) s m args below meth cd Q 1 H1 lo1 0 0 8 [(0, .ref b)] [.int (zI 1)]
  refine v_if_ne X (by omega) dX10_restore_8 11 13 rfl (by decide) (fun c_2 => ?_) (fun c_2 => ?_)
  · skip
    refine v_aload_n X dX10_restore_13 14 rfl 0 rfl ?_
    refine v_bipush X dX10_restore_14 16 rfl rfl ?_
    refine v_iconst X dX10_restore_16 17 rfl ?_
    refine v_muV X hM (h_mo.1) (c_X10_copies l E b (updC mo 0 (updZ (mo 0) 0 0)) 9 0 (by omega) (by omega) (by omega) (by omega) (by omega)) kvX10_copies kiX10_copies kl_X10_33 (q0 := 0) rfl rfl (As := [.int (zI 9), .int (zI 0)]) rfl rfl rfl dX10_restore_17 20 rfl (k' := 0) (n' := 0) rfl rfl (fsI (fun q q1 q2 => (Or.inl (fsH (by omega) (by omega))))) h_mo (fun rv H3 lo3 hM hF hpo => ?_)
    obtain ⟨rfl, hw_0⟩ := hpo
    have h_mo : PR E b (modelW E b (updC (updC mo 0 (updZ (mo 0) 0 0)) 1 (cpG ((mo 1)) 9 0))) H3 := hw_0
    show V p l e (rmL 1 0 0) s m args below meth cd Q 1 H3 lo3 0 0 20 [(0, .ref b)] []
    refine v_aload_n X dX10_restore_20 21 rfl 0 rfl ?_
    refine v_iconst X dX10_restore_21 22 rfl ?_
    refine v_putf X hM h_mo ftX10 0 rfl rfl 2 (by decide) kf_X10_37 (fun _ h => h) rfl rfl rfl (Nat.le_of_ble_eq_true rfl) (Or.inl (fsH (by omega) (by omega))) dX10_restore_22 25 rfl (ws' := modelW E b (updC (updC mo 0 (updZ (updZ (mo 0) 0 0) 2 0)) 1 (cpG ((mo 1)) 9 0))) rfl (fun H4 lo4 hzz hM hF h_mo => ?_)
    clear hzz
    refine v_aload_n X dX10_restore_25 26 rfl 0 rfl ?_
    refine v_getf X hM.C h_mo.1 inX10 0 rfl rfl 1 (by decide) kf_X10_9 (fun _ h => h) rfl dX10_restore_26 29 rfl ?_
    refine v_iconst X dX10_restore_29 30 rfl ?_
    refine v_iald X hM.C h_mo.1 1 rfl (by omega) (by omega) (by omega) dX10_restore_30 31 rfl ?_
    show V p l e (rmL 1 0 0) s m args below meth cd Q 1 H4 lo4 0 0 31 [(0, .ref b)] [.int (zI ((cpG (mo 1) 9 0) 0))]
    subst hQ; exact m_iret X hr hlk hM dX10_restore_31 rfl ⟨(cpG ((mo 1)) 9 0), (sv (by exact (RelM.rest hRM p0).1.2.s0.symm)), (by exact RelM.rest hRM p0), h_mo⟩
  · skip
    exfalso; omega
set_option maxHeartbeats 4000000 in
set_option maxRecDepth 20000 in
theorem c_X10_restore_0 (l : Launch) (E : Nat → Nat → Nat) (b : Nat) (mo : Nat → Int → Int) (co : Nat → Int → Int) (cv : Nat → Int → Int) (hc : Nat → Nat → Int → Int) (nx : Int) (sz : Int) (hs : Int) (hO : OkC co) (hRM : RelM co cv hc nx sz hs (mo 1)) (hch : mo 0 2 = sz) (n0 : 0 ≤ nx) (n1 : nx < 8) (s0 : 0 ≤ sz) (s1 : sz ≤ 8) (he : mo 0 3 = hs) (gh : hs = 0 ∨ hs = 1) (nk : ¬ (hs = 1)) : Mu l yX10_restore cX10_restore 1 (some .int) 1 0 0 E [(b, 5)] [.ref b] (fun H => PR E b (modelW E b mo) H) (fun rv H => ∃ g2 : Int → Int, rv = some (.int (zI 0)) ∧ RelM (co) (cv) (hc) (nx) (sz) (hs) g2 ∧ PR E b (modelW E b (updC (updC mo 0 (updZ (mo 0) 0 1)) 1 g2)) H) := by
  refine Mu.start (own := RX10) rfl (by decide +kernel) (Nat.le_of_ble_eq_true rfl) ?_
  intro p e s m below meth cd args Q hQ X hr hlk hnm hM hPr
  have h_mo := hPr
  have hb0 := hO.b0
  have hbw := hO.bw
  have hR := hRM.1.2
  have hr0 := hR.s0
  refine v_aload_n X dX10_restore_0 1 rfl 0 rfl ?_
  refine v_aload_n X dX10_restore_1 2 rfl 0 rfl ?_
  refine v_getf X hM.C h_mo.1 inX10 0 rfl rfl 3 (by decide) kf_X10_213 (fun _ h => h) rfl dX10_restore_2 5 rfl ?_
  show V p l e (rmL 1 0 0) s m args below meth cd Q 1 s.heap [] 0 0 5 [(0, .ref b)] [.int (zI (mo 0 3)), .ref b]
  refine V_S (st' := [.int (zI 0), .ref b]) (by rw [show mo 0 3 = 0 by omega]) ?_
  refine v_muV X hM (h_mo.1) (c_X10_isFine_0 l E b mo) kvX10_isFine kiX10_isFine kl_X10_124 (q0 := 0) rfl rfl (As := [.int (zI 0)]) rfl rfl rfl dX10_restore_5 8 rfl (k' := 0) (n' := 0) rfl rfl (fsI (fun q q1 q2 => (Or.inl (fsH (by omega) (by omega))))) h_mo (fun rv H1 lo1 hM hF hpo => ?_)
  obtain ⟨rfl, hw_0⟩ := hpo
  have h_mo : PR E b (modelW E b (updC mo 0 (updZ (mo 0) 0 1))) H1 := hw_0
  show V p l e (rmL 1 0 0) s m args below meth cd Q 1 H1 lo1 0 0 8 [(0, .ref b)] [.int (zI 0)]
  refine v_if_ne X (by omega) dX10_restore_8 11 13 rfl (by decide) (fun c_2 => ?_) (fun c_2 => ?_)
  · skip
    exfalso; omega
  · skip
    refine v_iconst X dX10_restore_11 12 rfl ?_
    subst hQ; exact m_iret X hr hlk hM dX10_restore_12 rfl ⟨(mo 1), rfl, (by exact hRM), h_mo⟩
