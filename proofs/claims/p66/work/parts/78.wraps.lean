theorem xl_L_31 : Cond.classLink RL 31 "java/lang/IndexOutOfBoundsException" ∈ WA := WA_of (i := 1171) (by decide +kernel) (by decide +kernel)
theorem xl_L_37 : Cond.classLink RL 37 "java/util/NoSuchElementException" ∈ WA := WA_of (i := 1174) (by decide +kernel) (by decide +kernel)
theorem xl_L_21 : Cond.classLink RL 21 "java/lang/IllegalStateException" ∈ WA := WA_of (i := 1219) (by decide +kernel) (by decide +kernel)
theorem xl_L_19 : Cond.classLink RL 19 "java/lang/IllegalArgumentException" ∈ WA := WA_of (i := 1240) (by decide +kernel) (by decide +kernel)
theorem xc_IAE : Cond.castable "java/lang/IllegalArgumentException" "java/lang/IllegalArgumentException" ∈ WN := WN_of (i := 347) (by decide +kernel) (by decide +kernel)
theorem xc_ISE : Cond.castable "java/lang/IllegalStateException" "java/lang/IllegalStateException" ∈ WN := WN_of (i := 764) (by decide +kernel) (by decide +kernel)
theorem xc_IOB : Cond.castable "java/lang/IndexOutOfBoundsException" "java/lang/IndexOutOfBoundsException" ∈ WN := WN_of (i := 454) (by decide +kernel) (by decide +kernel)
theorem xc_NSE : Cond.castable "java/util/NoSuchElementException" "java/util/NoSuchElementException" ∈ WN := WN_of (i := 426) (by decide +kernel) (by decide +kernel)
theorem xc_ARI : Cond.castable "java/lang/ArithmeticException" "java/lang/ArithmeticException" ∈ WN := WN_of (i := 805) (by decide +kernel) (by decide +kernel)
set_option maxHeartbeats 4000000 in
set_option maxRecDepth 20000 in
theorem w_X9_charge (l : Launch) (hl : l.stackTraces = false) (E : Nat → Nat → Nat) (x : Nat) (co : Nat → Int → Int) (hs : Int) (er : Int) (fa : Int) (ss : Int) (d : Int) (o : Int) (hc : Nat → Nat → Int → Int) (nx : Int) (sz : Int) (hO : OkC co) (gd : Rg d) (go : Rg o) (hf : flC co 0 d o 0 = 0) (n0 : 0 ≤ nx) (n1 : nx < 8) (s0 : 0 ≤ sz) (s1 : sz ≤ 8) (hd_cm_co : x + 1 ≤ x + 1 ∨ x + 1 + 28 ≤ x) (hd_cm_hi : x + 1 ≤ x + 85 ∨ x + 85 + 2 ≤ x) (hd_cm_hf : x + 1 ≤ x + 87 ∨ x + 87 + 224 ≤ x) (hd_co_hi : x + 1 + 28 ≤ x + 85 ∨ x + 85 + 2 ≤ x + 1) (hd_co_hf : x + 1 + 28 ≤ x + 87 ∨ x + 87 + 224 ≤ x + 1) (hd_hi_hf : x + 85 + 2 ≤ x + 87 ∨ x + 87 + 224 ≤ x + 85) : MuW l yL_charge cL_charge 4 (some .int) [(0, 6, 7, 19), (0, 6, 12, 21)] 11 1 6 E [(x + 1, 28), (x + 85, 2), (x + 87, 224)] [.ref x, .int (zI d), .int (zI o)] (fun H => PR E x [(x, .inr (11, [.ref (x + 1), .ref (x + 29), .ref (x + 57), .ref (x + 85), .ref (x + 311), .ref (x + 314), .ref (x + 319), .ref (x + 332), .int (zI hs), .int (zI er), .int (zI fa), .int (zI ss)]))] H ∧ PR E (x + 1) (courtW E (x + 1) co) H ∧ PR E (x + 85) [(x + 85, .inr (7, [.ref (x + 86), .int (zI nx), .int (zI sz)])), (x + 86, .inl (E 102 3, 8, .inr (.inr (.inr (.inr (hisA (x + 87) 8))))))] H ∧ HF E (x + 87) 8 hc H) (fun rv H => rv = some (.int (zI (opV co 0 d o 0 0))) ∧ PR E (x + 1) (courtW E (x + 1) (opC co 0 d o 0 0)) H ∧ PR E (x + 85) [(x + 85, .inr (7, [.ref (x + 86), .int (zI (if nx < 7 then nx + 1 else 0)), .int (zI (min (sz + 1) 8))])), (x + 86, .inl (E 102 3, 8, .inr (.inr (.inr (.inr (hisA (x + 87) 8))))))] H ∧ HF E (x + 87) 8 (fun j => if j = nx.toNat then co else hc j) H) := by
  refine MuW.start (own := RL) rfl (by decide +kernel) (Nat.le_of_ble_eq_true rfl) ?_
  intro p e s m below meth cd args Q hQ X hr hlk htab hM hPr
  obtain ⟨h_cm, h_co, h_hi, h_hf⟩ := hPr
  refine v_aload_n X dL_charge_0 1 rfl 0 rfl ?_
  refine v_iload_n X dL_charge_1 2 rfl 1 rfl ?_
  refine v_iload_n X dL_charge_2 3 rfl 2 rfl ?_
  refine v_muV X hM (h_cm.1) (c_X9_charge l E x co hs er fa ss d o hc nx sz hO gd go hf n0 n1 s0 s1 hd_cm_co hd_cm_hi hd_cm_hf hd_co_hi hd_co_hf hd_hi_hf) kvX9_charge kiX9_charge kl_L_13 (q0 := 0) rfl rfl (As := [.int (zI d), .int (zI o)]) rfl rfl rfl dL_charge_3 6 rfl (k' := 0) (n' := 0) rfl rfl (by intro q hq; simp only [Fr, Fs, or_false, false_or] at hq ⊢; omega) ⟨h_cm, h_co, h_hi, h_hf⟩ (fun rv H1 lo1 hM hF hpo => ?_)
  obtain ⟨rfl, hw_0, hw_1, hw_2⟩ := hpo
  have h_co : PR E (x + 1) (courtW E (x + 1) (opC (co) 0 d o 0 0)) H1 := hw_0
  have h_hi : PR E (x + 85) [(x + 85, .inr (7, [.ref (x + 86), .int (zI (if nx < 7 then nx + 1 else 0)), .int (zI (min (sz + 1) 8))])), (x + 86, .inl (E 102 3, 8, .inr (.inr (.inr (.inr (hisA (x + 87) 8))))))] H1 := hw_1
  have h_hf : HF E (x + 87) 8 (fun j => if j = nx.toNat then co else hc j) H1 := hw_2
  replace h_cm := h_cm.kept hF 1 rfl (by intro q q1 q2 q3; simp only [Fs, or_false] at q3; omega)
  show V p l e (rmL 11 1 6) s m args below meth cd Q 4 H1 lo1 0 0 6 [(0, .ref x), (1, .int (zI d)), (2, .int (zI o))] [.int (zI (opV co 0 d o 0 0))]
  subst hQ; exact m_iret X hr hlk hM dL_charge_6 rfl ⟨rfl, h_co, h_hi, h_hf⟩
set_option maxHeartbeats 4000000 in
set_option maxRecDepth 20000 in
theorem w_X9_charge_2_t (l : Launch) (hl : l.stackTraces = false) (E : Nat → Nat → Nat) (x : Nat) (co : Nat → Int → Int) (hs : Int) (er : Int) (fa : Int) (ss : Int) (d : Int) (o : Int) (hO : OkC co) (gd : Rg d) (go : Rg o) (hf : flC co 0 d o 0 = 2) : MuW l yL_charge cL_charge 4 (some .int) [(0, 6, 7, 19), (0, 6, 12, 21)] 11 1 6 E [] [.ref x, .int (zI d), .int (zI o)] (fun H => PR E x [(x, .inr (11, [.ref (x + 1), .ref (x + 29), .ref (x + 57), .ref (x + 85), .ref (x + 311), .ref (x + 314), .ref (x + 319), .ref (x + 332), .int (zI hs), .int (zI er), .int (zI fa), .int (zI ss)]))] H ∧ PR E (x + 1) (courtW E (x + 1) co) H) (fun rv H => rv = some (.int (zI (-20000)))) := by
  refine MuW.start (own := RL) rfl (by decide +kernel) (Nat.le_of_ble_eq_true rfl) ?_
  intro p e s m below meth cd args Q hQ X hr hlk htab hM hPr
  obtain ⟨h_cm, h_co⟩ := hPr
  refine v_aload_n X dL_charge_0 1 rfl 0 rfl ?_
  refine v_iload_n X dL_charge_1 2 rfl 1 rfl ?_
  refine v_iload_n X dL_charge_2 3 rfl 2 rfl ?_
  have hht : HT RL "java/lang/IllegalArgumentException" s [(0, 6, 7, 19), (0, 6, 12, 21)] 3 0 7 := ⟨(0, 6, 7, 19), rfl, rfl, by decide, by decide, xl_L_19, xc_IAE, by
    intro i z hi hz
    omega⟩
  refine v_txC X htab hM (h_cm.1) (x_X9_charge_2 l hl E x co hs er fa ss d o hO gd go hf) kvX9_charge kiX9_charge kl_L_13 (q0 := 0) rfl rfl (As := [.int (zI d), .int (zI o)]) rfl rfl rfl dL_charge_3 0 7 hht (k' := 1) (n' := 6) rfl rfl (fun q hq => hq.elim) ⟨h_cm, h_co⟩ (fun q9 H1 lo1 hM hF hpo => ?_)
  replace h_cm := h_cm.kept hF 1 rfl (fun q _ _ h => h.elim)
  replace h_co := h_co.kept hF 28 rfl (fun q _ _ h => h.elim)
  show V p l e (rmL 11 1 6) s m args below meth cd Q 4 H1 lo1 1 6 7 [(0, .ref x), (1, .int (zI d)), (2, .int (zI o))] [.ref q9]
  refine v_astore_n X dL_charge_7 8 rfl rfl (by decide) (L' := [(3, .ref q9), (0, .ref x), (1, .int (zI d)), (2, .int (zI o))]) rfl ?_
  refine v_sipush X dL_charge_8 11 rfl rfl ?_
  subst hQ; exact m_iret X hr hlk hM dL_charge_11 rfl rfl
set_option maxHeartbeats 4000000 in
set_option maxRecDepth 20000 in
theorem w_X9_charge_4_t (l : Launch) (hl : l.stackTraces = false) (E : Nat → Nat → Nat) (x : Nat) (co : Nat → Int → Int) (hs : Int) (er : Int) (fa : Int) (ss : Int) (d : Int) (o : Int) (hO : OkC co) (gd : Rg d) (go : Rg o) (hf : flC co 0 d o 0 = 4) : MuW l yL_charge cL_charge 4 (some .int) [(0, 6, 7, 19), (0, 6, 12, 21)] 11 1 6 E [] [.ref x, .int (zI d), .int (zI o)] (fun H => PR E x [(x, .inr (11, [.ref (x + 1), .ref (x + 29), .ref (x + 57), .ref (x + 85), .ref (x + 311), .ref (x + 314), .ref (x + 319), .ref (x + 332), .int (zI hs), .int (zI er), .int (zI fa), .int (zI ss)]))] H ∧ PR E (x + 1) (courtW E (x + 1) co) H) (fun rv H => rv = some (.int (zI (-10000)))) := by
  refine MuW.start (own := RL) rfl (by decide +kernel) (Nat.le_of_ble_eq_true rfl) ?_
  intro p e s m below meth cd args Q hQ X hr hlk htab hM hPr
  obtain ⟨h_cm, h_co⟩ := hPr
  refine v_aload_n X dL_charge_0 1 rfl 0 rfl ?_
  refine v_iload_n X dL_charge_1 2 rfl 1 rfl ?_
  refine v_iload_n X dL_charge_2 3 rfl 2 rfl ?_
  have hht : HT RL "java/lang/IllegalStateException" s [(0, 6, 7, 19), (0, 6, 12, 21)] 3 1 12 := ⟨(0, 6, 12, 21), rfl, rfl, by decide, by decide, xl_L_21, xc_ISE, by
    intro i z hi hz
    rcases (show i = 0 by omega) with rfl
    · cases hz; exact ⟨by decide, _, xl_L_19, hM.C.2.2.2.2.2.2.1 1 0 _ _ (by decide) rfl rfl⟩⟩
  refine v_txC X htab hM (h_cm.1) (x_X9_charge_4 l hl E x co hs er fa ss d o hO gd go hf) kvX9_charge kiX9_charge kl_L_13 (q0 := 0) rfl rfl (As := [.int (zI d), .int (zI o)]) rfl rfl rfl dL_charge_3 1 12 hht (k' := 1) (n' := 6) rfl rfl (fun q hq => hq.elim) ⟨h_cm, h_co⟩ (fun q9 H1 lo1 hM hF hpo => ?_)
  replace h_cm := h_cm.kept hF 1 rfl (fun q _ _ h => h.elim)
  replace h_co := h_co.kept hF 28 rfl (fun q _ _ h => h.elim)
  show V p l e (rmL 11 1 6) s m args below meth cd Q 4 H1 lo1 1 6 12 [(0, .ref x), (1, .int (zI d)), (2, .int (zI o))] [.ref q9]
  refine v_astore_n X dL_charge_12 13 rfl rfl (by decide) (L' := [(3, .ref q9), (0, .ref x), (1, .int (zI d)), (2, .int (zI o))]) rfl ?_
  refine v_sipush X dL_charge_13 16 rfl rfl ?_
  subst hQ; exact m_iret X hr hlk hM dL_charge_16 rfl rfl
set_option maxHeartbeats 4000000 in
set_option maxRecDepth 20000 in
theorem w_X9_addWitness (l : Launch) (hl : l.stackTraces = false) (E : Nat → Nat → Nat) (x : Nat) (co : Nat → Int → Int) (hs : Int) (er : Int) (fa : Int) (ss : Int) (v : Int) (hc : Nat → Nat → Int → Int) (nx : Int) (sz : Int) (hO : OkC co) (gv : Rg v) (hf : flC co 1 v 0 0 = 0) (n0 : 0 ≤ nx) (n1 : nx < 8) (s0 : 0 ≤ sz) (s1 : sz ≤ 8) (hd_cm_co : x + 1 ≤ x + 1 ∨ x + 1 + 28 ≤ x) (hd_cm_hi : x + 1 ≤ x + 85 ∨ x + 85 + 2 ≤ x) (hd_cm_hf : x + 1 ≤ x + 87 ∨ x + 87 + 224 ≤ x) (hd_co_hi : x + 1 + 28 ≤ x + 85 ∨ x + 85 + 2 ≤ x + 1) (hd_co_hf : x + 1 + 28 ≤ x + 87 ∨ x + 87 + 224 ≤ x + 1) (hd_hi_hf : x + 85 + 2 ≤ x + 87 ∨ x + 87 + 224 ≤ x + 85) : MuW l yL_addWitness cL_addWitness 3 (some .int) [(0, 5, 6, 19), (0, 5, 11, 21)] 11 1 6 E [(x + 1, 28), (x + 85, 2), (x + 87, 224)] [.ref x, .int (zI v)] (fun H => PR E x [(x, .inr (11, [.ref (x + 1), .ref (x + 29), .ref (x + 57), .ref (x + 85), .ref (x + 311), .ref (x + 314), .ref (x + 319), .ref (x + 332), .int (zI hs), .int (zI er), .int (zI fa), .int (zI ss)]))] H ∧ PR E (x + 1) (courtW E (x + 1) co) H ∧ PR E (x + 85) [(x + 85, .inr (7, [.ref (x + 86), .int (zI nx), .int (zI sz)])), (x + 86, .inl (E 102 3, 8, .inr (.inr (.inr (.inr (hisA (x + 87) 8))))))] H ∧ HF E (x + 87) 8 hc H) (fun rv H => rv = some (.int (zI (opV co 1 v 0 0 0))) ∧ PR E (x + 1) (courtW E (x + 1) (opC co 1 v 0 0 0)) H ∧ PR E (x + 85) [(x + 85, .inr (7, [.ref (x + 86), .int (zI (if nx < 7 then nx + 1 else 0)), .int (zI (min (sz + 1) 8))])), (x + 86, .inl (E 102 3, 8, .inr (.inr (.inr (.inr (hisA (x + 87) 8))))))] H ∧ HF E (x + 87) 8 (fun j => if j = nx.toNat then co else hc j) H) := by
  refine MuW.start (own := RL) rfl (by decide +kernel) (Nat.le_of_ble_eq_true rfl) ?_
  intro p e s m below meth cd args Q hQ X hr hlk htab hM hPr
  obtain ⟨h_cm, h_co, h_hi, h_hf⟩ := hPr
  refine v_aload_n X dL_addWitness_0 1 rfl 0 rfl ?_
  refine v_iload_n X dL_addWitness_1 2 rfl 1 rfl ?_
  refine v_muV X hM (h_cm.1) (c_X9_addWitness l E x co hs er fa ss v hc nx sz hO gv hf n0 n1 s0 s1 hd_cm_co hd_cm_hi hd_cm_hf hd_co_hi hd_co_hf hd_hi_hf) kvX9_addWitness kiX9_addWitness kl_L_23 (q0 := 0) rfl rfl (As := [.int (zI v)]) rfl rfl rfl dL_addWitness_2 5 rfl (k' := 0) (n' := 0) rfl rfl (by intro q hq; simp only [Fr, Fs, or_false, false_or] at hq ⊢; omega) ⟨h_cm, h_co, h_hi, h_hf⟩ (fun rv H1 lo1 hM hF hpo => ?_)
  obtain ⟨rfl, hw_0, hw_1, hw_2⟩ := hpo
  have h_co : PR E (x + 1) (courtW E (x + 1) (opC co 1 v 0 0 0)) H1 := hw_0
  have h_hi : PR E (x + 85) [(x + 85, .inr (7, [.ref (x + 86), .int (zI (if nx < 7 then nx + 1 else 0)), .int (zI (min (sz + 1) 8))])), (x + 86, .inl (E 102 3, 8, .inr (.inr (.inr (.inr (hisA (x + 87) 8))))))] H1 := hw_1
  have h_hf : HF E (x + 87) 8 (fun j => if j = nx.toNat then co else hc j) H1 := hw_2
  replace h_cm := h_cm.kept hF 1 rfl (by intro q q1 q2 q3; simp only [Fs, or_false] at q3; omega)
  show V p l e (rmL 11 1 6) s m args below meth cd Q 3 H1 lo1 0 0 5 [(0, .ref x), (1, .int (zI v))] [.int (zI (opV co 1 v 0 0 0))]
  have hb_2 := hO.b1 v
  subst hQ; exact m_iret X hr hlk hM dL_addWitness_5 rfl ⟨rfl, h_co, h_hi, h_hf⟩
set_option maxHeartbeats 4000000 in
set_option maxRecDepth 20000 in
theorem w_X9_addWitness_2_t (l : Launch) (hl : l.stackTraces = false) (E : Nat → Nat → Nat) (x : Nat) (co : Nat → Int → Int) (hs : Int) (er : Int) (fa : Int) (ss : Int) (v : Int) (hO : OkC co) (gv : Rg v) (hf : flC co 1 v 0 0 = 2) : MuW l yL_addWitness cL_addWitness 3 (some .int) [(0, 5, 6, 19), (0, 5, 11, 21)] 11 1 6 E [] [.ref x, .int (zI v)] (fun H => PR E x [(x, .inr (11, [.ref (x + 1), .ref (x + 29), .ref (x + 57), .ref (x + 85), .ref (x + 311), .ref (x + 314), .ref (x + 319), .ref (x + 332), .int (zI hs), .int (zI er), .int (zI fa), .int (zI ss)]))] H ∧ PR E (x + 1) (courtW E (x + 1) co) H) (fun rv H => rv = some (.int (zI (-20000)))) := by
  refine MuW.start (own := RL) rfl (by decide +kernel) (Nat.le_of_ble_eq_true rfl) ?_
  intro p e s m below meth cd args Q hQ X hr hlk htab hM hPr
  obtain ⟨h_cm, h_co⟩ := hPr
  refine v_aload_n X dL_addWitness_0 1 rfl 0 rfl ?_
  refine v_iload_n X dL_addWitness_1 2 rfl 1 rfl ?_
  have hht : HT RL "java/lang/IllegalArgumentException" s [(0, 5, 6, 19), (0, 5, 11, 21)] 2 0 6 := ⟨(0, 5, 6, 19), rfl, rfl, by decide, by decide, xl_L_19, xc_IAE, by
    intro i z hi hz
    omega⟩
  refine v_txC X htab hM (h_cm.1) (x_X9_addWitness_2 l hl E x co hs er fa ss v hO gv hf) kvX9_addWitness kiX9_addWitness kl_L_23 (q0 := 0) rfl rfl (As := [.int (zI v)]) rfl rfl rfl dL_addWitness_2 0 6 hht (k' := 1) (n' := 6) rfl rfl (fun q hq => hq.elim) ⟨h_cm, h_co⟩ (fun q9 H1 lo1 hM hF hpo => ?_)
  replace h_cm := h_cm.kept hF 1 rfl (fun q _ _ h => h.elim)
  replace h_co := h_co.kept hF 28 rfl (fun q _ _ h => h.elim)
  show V p l e (rmL 11 1 6) s m args below meth cd Q 3 H1 lo1 1 6 6 [(0, .ref x), (1, .int (zI v))] [.ref q9]
  refine v_astore_n X dL_addWitness_6 7 rfl rfl (by decide) (L' := [(2, .ref q9), (0, .ref x), (1, .int (zI v))]) rfl ?_
  refine v_sipush X dL_addWitness_7 10 rfl rfl ?_
  subst hQ; exact m_iret X hr hlk hM dL_addWitness_10 rfl rfl
set_option maxHeartbeats 4000000 in
set_option maxRecDepth 20000 in
theorem w_X9_addWitness_4_t (l : Launch) (hl : l.stackTraces = false) (E : Nat → Nat → Nat) (x : Nat) (co : Nat → Int → Int) (hs : Int) (er : Int) (fa : Int) (ss : Int) (v : Int) (hO : OkC co) (gv : Rg v) (hf : flC co 1 v 0 0 = 4) : MuW l yL_addWitness cL_addWitness 3 (some .int) [(0, 5, 6, 19), (0, 5, 11, 21)] 11 1 6 E [] [.ref x, .int (zI v)] (fun H => PR E x [(x, .inr (11, [.ref (x + 1), .ref (x + 29), .ref (x + 57), .ref (x + 85), .ref (x + 311), .ref (x + 314), .ref (x + 319), .ref (x + 332), .int (zI hs), .int (zI er), .int (zI fa), .int (zI ss)]))] H ∧ PR E (x + 1) (courtW E (x + 1) co) H) (fun rv H => rv = some (.int (zI (-10000)))) := by
  refine MuW.start (own := RL) rfl (by decide +kernel) (Nat.le_of_ble_eq_true rfl) ?_
  intro p e s m below meth cd args Q hQ X hr hlk htab hM hPr
  obtain ⟨h_cm, h_co⟩ := hPr
  refine v_aload_n X dL_addWitness_0 1 rfl 0 rfl ?_
  refine v_iload_n X dL_addWitness_1 2 rfl 1 rfl ?_
  have hht : HT RL "java/lang/IllegalStateException" s [(0, 5, 6, 19), (0, 5, 11, 21)] 2 1 11 := ⟨(0, 5, 11, 21), rfl, rfl, by decide, by decide, xl_L_21, xc_ISE, by
    intro i z hi hz
    rcases (show i = 0 by omega) with rfl
    · cases hz; exact ⟨by decide, _, xl_L_19, hM.C.2.2.2.2.2.2.1 1 0 _ _ (by decide) rfl rfl⟩⟩
  refine v_txC X htab hM (h_cm.1) (x_X9_addWitness_4 l hl E x co hs er fa ss v hO gv hf) kvX9_addWitness kiX9_addWitness kl_L_23 (q0 := 0) rfl rfl (As := [.int (zI v)]) rfl rfl rfl dL_addWitness_2 1 11 hht (k' := 1) (n' := 6) rfl rfl (fun q hq => hq.elim) ⟨h_cm, h_co⟩ (fun q9 H1 lo1 hM hF hpo => ?_)
  replace h_cm := h_cm.kept hF 1 rfl (fun q _ _ h => h.elim)
  replace h_co := h_co.kept hF 28 rfl (fun q _ _ h => h.elim)
  show V p l e (rmL 11 1 6) s m args below meth cd Q 3 H1 lo1 1 6 11 [(0, .ref x), (1, .int (zI v))] [.ref q9]
  refine v_astore_n X dL_addWitness_11 12 rfl rfl (by decide) (L' := [(2, .ref q9), (0, .ref x), (1, .int (zI v))]) rfl ?_
  refine v_sipush X dL_addWitness_12 15 rfl rfl ?_
  subst hQ; exact m_iret X hr hlk hM dL_addWitness_15 rfl rfl
set_option maxHeartbeats 4000000 in
set_option maxRecDepth 20000 in
theorem w_X9_testify (l : Launch) (hl : l.stackTraces = false) (E : Nat → Nat → Nat) (x : Nat) (co : Nat → Int → Int) (hs : Int) (er : Int) (fa : Int) (ss : Int) (k : Int) (w : Int) (f : Int) (z : Int) (hc : Nat → Nat → Int → Int) (nx : Int) (sz : Int) (hO : OkC co) (gk : Rg k) (gw : Rg w) (gz : Rg z) (gf : 0 ≤ f ∧ f ≤ 1) (hf : flC co 2 k w z = 0) (n0 : 0 ≤ nx) (n1 : nx < 8) (s0 : 0 ≤ sz) (s1 : sz ≤ 8) (hd_cm_co : x + 1 ≤ x + 1 ∨ x + 1 + 28 ≤ x) (hd_cm_hi : x + 1 ≤ x + 85 ∨ x + 85 + 2 ≤ x) (hd_cm_hf : x + 1 ≤ x + 87 ∨ x + 87 + 224 ≤ x) (hd_co_hi : x + 1 + 28 ≤ x + 85 ∨ x + 85 + 2 ≤ x + 1) (hd_co_hf : x + 1 + 28 ≤ x + 87 ∨ x + 87 + 224 ≤ x + 1) (hd_hi_hf : x + 85 + 2 ≤ x + 87 ∨ x + 87 + 224 ≤ x + 85) : MuW l yL_testify cL_testify 6 (some .int) [(0, 9, 10, 31), (0, 9, 16, 19), (0, 9, 22, 21)] 11 1 6 E [(x + 1, 28), (x + 85, 2), (x + 87, 224)] [.ref x, .int (zI k), .int (zI w), .int (zI f), .int (zI z)] (fun H => PR E x [(x, .inr (11, [.ref (x + 1), .ref (x + 29), .ref (x + 57), .ref (x + 85), .ref (x + 311), .ref (x + 314), .ref (x + 319), .ref (x + 332), .int (zI hs), .int (zI er), .int (zI fa), .int (zI ss)]))] H ∧ PR E (x + 1) (courtW E (x + 1) co) H ∧ PR E (x + 85) [(x + 85, .inr (7, [.ref (x + 86), .int (zI nx), .int (zI sz)])), (x + 86, .inl (E 102 3, 8, .inr (.inr (.inr (.inr (hisA (x + 87) 8))))))] H ∧ HF E (x + 87) 8 hc H) (fun rv H => rv = some (.int (zI (opV co 2 k w f z))) ∧ PR E (x + 1) (courtW E (x + 1) (opC co 2 k w f z)) H ∧ PR E (x + 85) [(x + 85, .inr (7, [.ref (x + 86), .int (zI (if nx < 7 then nx + 1 else 0)), .int (zI (min (sz + 1) 8))])), (x + 86, .inl (E 102 3, 8, .inr (.inr (.inr (.inr (hisA (x + 87) 8))))))] H ∧ HF E (x + 87) 8 (fun j => if j = nx.toNat then co else hc j) H) := by
  refine MuW.start (own := RL) rfl (by decide +kernel) (Nat.le_of_ble_eq_true rfl) ?_
  intro p e s m below meth cd args Q hQ X hr hlk htab hM hPr
  obtain ⟨h_cm, h_co, h_hi, h_hf⟩ := hPr
  refine v_aload_n X dL_testify_0 1 rfl 0 rfl ?_
  refine v_iload_n X dL_testify_1 2 rfl 1 rfl ?_
  refine v_iload_n X dL_testify_2 3 rfl 2 rfl ?_
  refine v_iload_n X dL_testify_3 4 rfl 3 rfl ?_
  refine v_iload X dL_testify_4 6 rfl 4 rfl ?_
  refine v_muV X hM (h_cm.1) (c_X9_testify l E x co hs er fa ss k w f z hc nx sz hO gk gw gz gf hf n0 n1 s0 s1 hd_cm_co hd_cm_hi hd_cm_hf hd_co_hi hd_co_hf hd_hi_hf) kvX9_testify kiX9_testify kl_L_27 (q0 := 0) rfl rfl (As := [.int (zI k), .int (zI w), .int (zI f), .int (zI z)]) rfl rfl rfl dL_testify_6 9 rfl (k' := 0) (n' := 0) rfl rfl (by intro q hq; simp only [Fr, Fs, or_false, false_or] at hq ⊢; omega) ⟨h_cm, h_co, h_hi, h_hf⟩ (fun rv H1 lo1 hM hF hpo => ?_)
  obtain ⟨rfl, hw_0, hw_1, hw_2⟩ := hpo
  have h_co : PR E (x + 1) (courtW E (x + 1) (opC co 2 k w f z)) H1 := hw_0
  have h_hi : PR E (x + 85) [(x + 85, .inr (7, [.ref (x + 86), .int (zI (if nx < 7 then nx + 1 else 0)), .int (zI (min (sz + 1) 8))])), (x + 86, .inl (E 102 3, 8, .inr (.inr (.inr (.inr (hisA (x + 87) 8))))))] H1 := hw_1
  have h_hf : HF E (x + 87) 8 (fun j => if j = nx.toNat then co else hc j) H1 := hw_2
  replace h_cm := h_cm.kept hF 1 rfl (by intro q q1 q2 q3; simp only [Fs, or_false] at q3; omega)
  show V p l e (rmL 11 1 6) s m args below meth cd Q 6 H1 lo1 0 0 9 [(0, .ref x), (1, .int (zI k)), (2, .int (zI w)), (3, .int (zI f)), (4, .int (zI z))] [.int (zI (opV co 2 k w f z))]
  have hb_2 := hO.b2 k
  subst hQ; exact m_iret X hr hlk hM dL_testify_9 rfl ⟨rfl, h_co, h_hi, h_hf⟩
set_option maxHeartbeats 4000000 in
set_option maxRecDepth 20000 in
theorem w_X9_testify_1_t (l : Launch) (hl : l.stackTraces = false) (E : Nat → Nat → Nat) (x : Nat) (co : Nat → Int → Int) (hs : Int) (er : Int) (fa : Int) (ss : Int) (k : Int) (w : Int) (f : Int) (z : Int) (hO : OkC co) (gk : Rg k) (gw : Rg w) (gz : Rg z) (gf : 0 ≤ f ∧ f ≤ 1) (hf : flC co 2 k w z = 1) : MuW l yL_testify cL_testify 6 (some .int) [(0, 9, 10, 31), (0, 9, 16, 19), (0, 9, 22, 21)] 11 1 6 E [] [.ref x, .int (zI k), .int (zI w), .int (zI f), .int (zI z)] (fun H => PR E x [(x, .inr (11, [.ref (x + 1), .ref (x + 29), .ref (x + 57), .ref (x + 85), .ref (x + 311), .ref (x + 314), .ref (x + 319), .ref (x + 332), .int (zI hs), .int (zI er), .int (zI fa), .int (zI ss)]))] H ∧ PR E (x + 1) (courtW E (x + 1) co) H) (fun rv H => rv = some (.int (zI (-25000)))) := by
  refine MuW.start (own := RL) rfl (by decide +kernel) (Nat.le_of_ble_eq_true rfl) ?_
  intro p e s m below meth cd args Q hQ X hr hlk htab hM hPr
  obtain ⟨h_cm, h_co⟩ := hPr
  refine v_aload_n X dL_testify_0 1 rfl 0 rfl ?_
  refine v_iload_n X dL_testify_1 2 rfl 1 rfl ?_
  refine v_iload_n X dL_testify_2 3 rfl 2 rfl ?_
  refine v_iload_n X dL_testify_3 4 rfl 3 rfl ?_
  refine v_iload X dL_testify_4 6 rfl 4 rfl ?_
  have hht : HT RL "java/lang/IndexOutOfBoundsException" s [(0, 9, 10, 31), (0, 9, 16, 19), (0, 9, 22, 21)] 6 0 10 := ⟨(0, 9, 10, 31), rfl, rfl, by decide, by decide, xl_L_31, xc_IOB, by
    intro i z hi hz
    omega⟩
  refine v_txC X htab hM (h_cm.1) (x_X9_testify_1 l hl E x co hs er fa ss k w f z hO gk gw gz gf hf) kvX9_testify kiX9_testify kl_L_27 (q0 := 0) rfl rfl (As := [.int (zI k), .int (zI w), .int (zI f), .int (zI z)]) rfl rfl rfl dL_testify_6 0 10 hht (k' := 1) (n' := 6) rfl rfl (fun q hq => hq.elim) ⟨h_cm, h_co⟩ (fun q9 H1 lo1 hM hF hpo => ?_)
  replace h_cm := h_cm.kept hF 1 rfl (fun q _ _ h => h.elim)
  replace h_co := h_co.kept hF 28 rfl (fun q _ _ h => h.elim)
  show V p l e (rmL 11 1 6) s m args below meth cd Q 6 H1 lo1 1 6 10 [(0, .ref x), (1, .int (zI k)), (2, .int (zI w)), (3, .int (zI f)), (4, .int (zI z))] [.ref q9]
  refine v_astore X dL_testify_10 12 rfl (by decide) (L' := [(5, .ref q9), (0, .ref x), (1, .int (zI k)), (2, .int (zI w)), (3, .int (zI f)), (4, .int (zI z))]) rfl ?_
  refine v_sipush X dL_testify_12 15 rfl rfl ?_
  subst hQ; exact m_iret X hr hlk hM dL_testify_15 rfl rfl
set_option maxHeartbeats 4000000 in
set_option maxRecDepth 20000 in
theorem w_X9_testify_2_t (l : Launch) (hl : l.stackTraces = false) (E : Nat → Nat → Nat) (x : Nat) (co : Nat → Int → Int) (hs : Int) (er : Int) (fa : Int) (ss : Int) (k : Int) (w : Int) (f : Int) (z : Int) (hO : OkC co) (gk : Rg k) (gw : Rg w) (gz : Rg z) (gf : 0 ≤ f ∧ f ≤ 1) (hf : flC co 2 k w z = 2) : MuW l yL_testify cL_testify 6 (some .int) [(0, 9, 10, 31), (0, 9, 16, 19), (0, 9, 22, 21)] 11 1 6 E [] [.ref x, .int (zI k), .int (zI w), .int (zI f), .int (zI z)] (fun H => PR E x [(x, .inr (11, [.ref (x + 1), .ref (x + 29), .ref (x + 57), .ref (x + 85), .ref (x + 311), .ref (x + 314), .ref (x + 319), .ref (x + 332), .int (zI hs), .int (zI er), .int (zI fa), .int (zI ss)]))] H ∧ PR E (x + 1) (courtW E (x + 1) co) H) (fun rv H => rv = some (.int (zI (-20000)))) := by
  refine MuW.start (own := RL) rfl (by decide +kernel) (Nat.le_of_ble_eq_true rfl) ?_
  intro p e s m below meth cd args Q hQ X hr hlk htab hM hPr
  obtain ⟨h_cm, h_co⟩ := hPr
  refine v_aload_n X dL_testify_0 1 rfl 0 rfl ?_
  refine v_iload_n X dL_testify_1 2 rfl 1 rfl ?_
  refine v_iload_n X dL_testify_2 3 rfl 2 rfl ?_
  refine v_iload_n X dL_testify_3 4 rfl 3 rfl ?_
  refine v_iload X dL_testify_4 6 rfl 4 rfl ?_
  have hht : HT RL "java/lang/IllegalArgumentException" s [(0, 9, 10, 31), (0, 9, 16, 19), (0, 9, 22, 21)] 6 1 16 := ⟨(0, 9, 16, 19), rfl, rfl, by decide, by decide, xl_L_19, xc_IAE, by
    intro i z hi hz
    rcases (show i = 0 by omega) with rfl
    · cases hz; exact ⟨by decide, _, xl_L_31, hM.C.2.2.2.2.2.2.1 0 2 _ _ (by decide) rfl rfl⟩⟩
  refine v_txC X htab hM (h_cm.1) (x_X9_testify_2 l hl E x co hs er fa ss k w f z hO gk gw gz gf hf) kvX9_testify kiX9_testify kl_L_27 (q0 := 0) rfl rfl (As := [.int (zI k), .int (zI w), .int (zI f), .int (zI z)]) rfl rfl rfl dL_testify_6 1 16 hht (k' := 1) (n' := 6) rfl rfl (fun q hq => hq.elim) ⟨h_cm, h_co⟩ (fun q9 H1 lo1 hM hF hpo => ?_)
  replace h_cm := h_cm.kept hF 1 rfl (fun q _ _ h => h.elim)
  replace h_co := h_co.kept hF 28 rfl (fun q _ _ h => h.elim)
  show V p l e (rmL 11 1 6) s m args below meth cd Q 6 H1 lo1 1 6 16 [(0, .ref x), (1, .int (zI k)), (2, .int (zI w)), (3, .int (zI f)), (4, .int (zI z))] [.ref q9]
  refine v_astore X dL_testify_16 18 rfl (by decide) (L' := [(5, .ref q9), (0, .ref x), (1, .int (zI k)), (2, .int (zI w)), (3, .int (zI f)), (4, .int (zI z))]) rfl ?_
  refine v_sipush X dL_testify_18 21 rfl rfl ?_
  subst hQ; exact m_iret X hr hlk hM dL_testify_21 rfl rfl
set_option maxHeartbeats 4000000 in
set_option maxRecDepth 20000 in
theorem w_X9_testify_4_t (l : Launch) (hl : l.stackTraces = false) (E : Nat → Nat → Nat) (x : Nat) (co : Nat → Int → Int) (hs : Int) (er : Int) (fa : Int) (ss : Int) (k : Int) (w : Int) (f : Int) (z : Int) (hO : OkC co) (gk : Rg k) (gw : Rg w) (gz : Rg z) (gf : 0 ≤ f ∧ f ≤ 1) (hf : flC co 2 k w z = 4) : MuW l yL_testify cL_testify 6 (some .int) [(0, 9, 10, 31), (0, 9, 16, 19), (0, 9, 22, 21)] 11 1 6 E [] [.ref x, .int (zI k), .int (zI w), .int (zI f), .int (zI z)] (fun H => PR E x [(x, .inr (11, [.ref (x + 1), .ref (x + 29), .ref (x + 57), .ref (x + 85), .ref (x + 311), .ref (x + 314), .ref (x + 319), .ref (x + 332), .int (zI hs), .int (zI er), .int (zI fa), .int (zI ss)]))] H ∧ PR E (x + 1) (courtW E (x + 1) co) H) (fun rv H => rv = some (.int (zI (-10000)))) := by
  refine MuW.start (own := RL) rfl (by decide +kernel) (Nat.le_of_ble_eq_true rfl) ?_
  intro p e s m below meth cd args Q hQ X hr hlk htab hM hPr
  obtain ⟨h_cm, h_co⟩ := hPr
  refine v_aload_n X dL_testify_0 1 rfl 0 rfl ?_
  refine v_iload_n X dL_testify_1 2 rfl 1 rfl ?_
  refine v_iload_n X dL_testify_2 3 rfl 2 rfl ?_
  refine v_iload_n X dL_testify_3 4 rfl 3 rfl ?_
  refine v_iload X dL_testify_4 6 rfl 4 rfl ?_
  have hht : HT RL "java/lang/IllegalStateException" s [(0, 9, 10, 31), (0, 9, 16, 19), (0, 9, 22, 21)] 6 2 22 := ⟨(0, 9, 22, 21), rfl, rfl, by decide, by decide, xl_L_21, xc_ISE, by
    intro i z hi hz
    rcases (show i = 0 ∨ i = 1 by omega) with rfl | rfl
    · cases hz; exact ⟨by decide, _, xl_L_31, hM.C.2.2.2.2.2.2.1 1 2 _ _ (by decide) rfl rfl⟩
    · cases hz; exact ⟨by decide, _, xl_L_19, hM.C.2.2.2.2.2.2.1 1 0 _ _ (by decide) rfl rfl⟩⟩
  refine v_txC X htab hM (h_cm.1) (x_X9_testify_4 l hl E x co hs er fa ss k w f z hO gk gw gz gf hf) kvX9_testify kiX9_testify kl_L_27 (q0 := 0) rfl rfl (As := [.int (zI k), .int (zI w), .int (zI f), .int (zI z)]) rfl rfl rfl dL_testify_6 2 22 hht (k' := 1) (n' := 6) rfl rfl (fun q hq => hq.elim) ⟨h_cm, h_co⟩ (fun q9 H1 lo1 hM hF hpo => ?_)
  replace h_cm := h_cm.kept hF 1 rfl (fun q _ _ h => h.elim)
  replace h_co := h_co.kept hF 28 rfl (fun q _ _ h => h.elim)
  show V p l e (rmL 11 1 6) s m args below meth cd Q 6 H1 lo1 1 6 22 [(0, .ref x), (1, .int (zI k)), (2, .int (zI w)), (3, .int (zI f)), (4, .int (zI z))] [.ref q9]
  refine v_astore X dL_testify_22 24 rfl (by decide) (L' := [(5, .ref q9), (0, .ref x), (1, .int (zI k)), (2, .int (zI w)), (3, .int (zI f)), (4, .int (zI z))]) rfl ?_
  refine v_sipush X dL_testify_24 27 rfl rfl ?_
  subst hQ; exact m_iret X hr hlk hM dL_testify_27 rfl rfl
set_option maxHeartbeats 4000000 in
set_option maxRecDepth 20000 in
theorem w_X9_question (l : Launch) (hl : l.stackTraces = false) (E : Nat → Nat → Nat) (x : Nat) (co : Nat → Int → Int) (hs : Int) (er : Int) (fa : Int) (ss : Int) (k : Int) (w : Int) (f : Int) (hc : Nat → Nat → Int → Int) (nx : Int) (sz : Int) (hO : OkC co) (gk : Rg k) (gw : Rg w) (gf : 0 ≤ f ∧ f ≤ 1) (hf : flC co 3 k w 0 = 0) (n0 : 0 ≤ nx) (n1 : nx < 8) (s0 : 0 ≤ sz) (s1 : sz ≤ 8) (hd_cm_co : x + 1 ≤ x + 1 ∨ x + 1 + 28 ≤ x) (hd_cm_hi : x + 1 ≤ x + 85 ∨ x + 85 + 2 ≤ x) (hd_cm_hf : x + 1 ≤ x + 87 ∨ x + 87 + 224 ≤ x) (hd_co_hi : x + 1 + 28 ≤ x + 85 ∨ x + 85 + 2 ≤ x + 1) (hd_co_hf : x + 1 + 28 ≤ x + 87 ∨ x + 87 + 224 ≤ x + 1) (hd_hi_hf : x + 85 + 2 ≤ x + 87 ∨ x + 87 + 224 ≤ x + 85) : MuW l yL_question cL_question 5 (some .int) [(0, 7, 8, 31), (0, 7, 14, 37), (0, 7, 20, 21)] 11 1 6 E [(x + 1, 28), (x + 85, 2), (x + 87, 224)] [.ref x, .int (zI k), .int (zI w), .int (zI f)] (fun H => PR E x [(x, .inr (11, [.ref (x + 1), .ref (x + 29), .ref (x + 57), .ref (x + 85), .ref (x + 311), .ref (x + 314), .ref (x + 319), .ref (x + 332), .int (zI hs), .int (zI er), .int (zI fa), .int (zI ss)]))] H ∧ PR E (x + 1) (courtW E (x + 1) co) H ∧ PR E (x + 85) [(x + 85, .inr (7, [.ref (x + 86), .int (zI nx), .int (zI sz)])), (x + 86, .inl (E 102 3, 8, .inr (.inr (.inr (.inr (hisA (x + 87) 8))))))] H ∧ HF E (x + 87) 8 hc H) (fun rv H => rv = some (.int (zI (opV co 3 k w f 0))) ∧ PR E (x + 1) (courtW E (x + 1) (opC co 3 k w f 0)) H ∧ PR E (x + 85) [(x + 85, .inr (7, [.ref (x + 86), .int (zI (if nx < 7 then nx + 1 else 0)), .int (zI (min (sz + 1) 8))])), (x + 86, .inl (E 102 3, 8, .inr (.inr (.inr (.inr (hisA (x + 87) 8))))))] H ∧ HF E (x + 87) 8 (fun j => if j = nx.toNat then co else hc j) H) := by
  refine MuW.start (own := RL) rfl (by decide +kernel) (Nat.le_of_ble_eq_true rfl) ?_
  intro p e s m below meth cd args Q hQ X hr hlk htab hM hPr
  obtain ⟨h_cm, h_co, h_hi, h_hf⟩ := hPr
  refine v_aload_n X dL_question_0 1 rfl 0 rfl ?_
  refine v_iload_n X dL_question_1 2 rfl 1 rfl ?_
  refine v_iload_n X dL_question_2 3 rfl 2 rfl ?_
  refine v_iload_n X dL_question_3 4 rfl 3 rfl ?_
  refine v_muV X hM (h_cm.1) (c_X9_question l E x co hs er fa ss k w f hc nx sz hO gk gw gf hf n0 n1 s0 s1 hd_cm_co hd_cm_hi hd_cm_hf hd_co_hi hd_co_hf hd_hi_hf) kvX9_question kiX9_question kl_L_33 (q0 := 0) rfl rfl (As := [.int (zI k), .int (zI w), .int (zI f)]) rfl rfl rfl dL_question_4 7 rfl (k' := 0) (n' := 0) rfl rfl (by intro q hq; simp only [Fr, Fs, or_false, false_or] at hq ⊢; omega) ⟨h_cm, h_co, h_hi, h_hf⟩ (fun rv H1 lo1 hM hF hpo => ?_)
  obtain ⟨rfl, hw_0, hw_1, hw_2⟩ := hpo
  have h_co : PR E (x + 1) (courtW E (x + 1) (opC co 3 k w f 0)) H1 := hw_0
  have h_hi : PR E (x + 85) [(x + 85, .inr (7, [.ref (x + 86), .int (zI (if nx < 7 then nx + 1 else 0)), .int (zI (min (sz + 1) 8))])), (x + 86, .inl (E 102 3, 8, .inr (.inr (.inr (.inr (hisA (x + 87) 8))))))] H1 := hw_1
  have h_hf : HF E (x + 87) 8 (fun j => if j = nx.toNat then co else hc j) H1 := hw_2
  replace h_cm := h_cm.kept hF 1 rfl (by intro q q1 q2 q3; simp only [Fs, or_false] at q3; omega)
  show V p l e (rmL 11 1 6) s m args below meth cd Q 5 H1 lo1 0 0 7 [(0, .ref x), (1, .int (zI k)), (2, .int (zI w)), (3, .int (zI f))] [.int (zI (opV co 3 k w f 0))]
  have hb_2 := hO.b3 k
  subst hQ; exact m_iret X hr hlk hM dL_question_7 rfl ⟨rfl, h_co, h_hi, h_hf⟩
set_option maxHeartbeats 4000000 in
set_option maxRecDepth 20000 in
theorem w_X9_question_1_t (l : Launch) (hl : l.stackTraces = false) (E : Nat → Nat → Nat) (x : Nat) (co : Nat → Int → Int) (hs : Int) (er : Int) (fa : Int) (ss : Int) (k : Int) (w : Int) (f : Int) (hO : OkC co) (gk : Rg k) (gw : Rg w) (gf : 0 ≤ f ∧ f ≤ 1) (hf : flC co 3 k w 0 = 1) : MuW l yL_question cL_question 5 (some .int) [(0, 7, 8, 31), (0, 7, 14, 37), (0, 7, 20, 21)] 11 1 6 E [] [.ref x, .int (zI k), .int (zI w), .int (zI f)] (fun H => PR E x [(x, .inr (11, [.ref (x + 1), .ref (x + 29), .ref (x + 57), .ref (x + 85), .ref (x + 311), .ref (x + 314), .ref (x + 319), .ref (x + 332), .int (zI hs), .int (zI er), .int (zI fa), .int (zI ss)]))] H ∧ PR E (x + 1) (courtW E (x + 1) co) H) (fun rv H => rv = some (.int (zI (-25000)))) := by
  refine MuW.start (own := RL) rfl (by decide +kernel) (Nat.le_of_ble_eq_true rfl) ?_
  intro p e s m below meth cd args Q hQ X hr hlk htab hM hPr
  obtain ⟨h_cm, h_co⟩ := hPr
  refine v_aload_n X dL_question_0 1 rfl 0 rfl ?_
  refine v_iload_n X dL_question_1 2 rfl 1 rfl ?_
  refine v_iload_n X dL_question_2 3 rfl 2 rfl ?_
  refine v_iload_n X dL_question_3 4 rfl 3 rfl ?_
  have hht : HT RL "java/lang/IndexOutOfBoundsException" s [(0, 7, 8, 31), (0, 7, 14, 37), (0, 7, 20, 21)] 4 0 8 := ⟨(0, 7, 8, 31), rfl, rfl, by decide, by decide, xl_L_31, xc_IOB, by
    intro i z hi hz
    omega⟩
  refine v_txC X htab hM (h_cm.1) (x_X9_question_1 l hl E x co hs er fa ss k w f hO gk gw gf hf) kvX9_question kiX9_question kl_L_33 (q0 := 0) rfl rfl (As := [.int (zI k), .int (zI w), .int (zI f)]) rfl rfl rfl dL_question_4 0 8 hht (k' := 1) (n' := 6) rfl rfl (fun q hq => hq.elim) ⟨h_cm, h_co⟩ (fun q9 H1 lo1 hM hF hpo => ?_)
  replace h_cm := h_cm.kept hF 1 rfl (fun q _ _ h => h.elim)
  replace h_co := h_co.kept hF 28 rfl (fun q _ _ h => h.elim)
  show V p l e (rmL 11 1 6) s m args below meth cd Q 5 H1 lo1 1 6 8 [(0, .ref x), (1, .int (zI k)), (2, .int (zI w)), (3, .int (zI f))] [.ref q9]
  refine v_astore X dL_question_8 10 rfl (by decide) (L' := [(4, .ref q9), (0, .ref x), (1, .int (zI k)), (2, .int (zI w)), (3, .int (zI f))]) rfl ?_
  refine v_sipush X dL_question_10 13 rfl rfl ?_
  subst hQ; exact m_iret X hr hlk hM dL_question_13 rfl rfl
set_option maxHeartbeats 4000000 in
set_option maxRecDepth 20000 in
theorem w_X9_question_3_t (l : Launch) (hl : l.stackTraces = false) (E : Nat → Nat → Nat) (x : Nat) (co : Nat → Int → Int) (hs : Int) (er : Int) (fa : Int) (ss : Int) (k : Int) (w : Int) (f : Int) (hO : OkC co) (gk : Rg k) (gw : Rg w) (gf : 0 ≤ f ∧ f ≤ 1) (hf : flC co 3 k w 0 = 3) : MuW l yL_question cL_question 5 (some .int) [(0, 7, 8, 31), (0, 7, 14, 37), (0, 7, 20, 21)] 11 1 6 E [] [.ref x, .int (zI k), .int (zI w), .int (zI f)] (fun H => PR E x [(x, .inr (11, [.ref (x + 1), .ref (x + 29), .ref (x + 57), .ref (x + 85), .ref (x + 311), .ref (x + 314), .ref (x + 319), .ref (x + 332), .int (zI hs), .int (zI er), .int (zI fa), .int (zI ss)]))] H ∧ PR E (x + 1) (courtW E (x + 1) co) H) (fun rv H => rv = some (.int (zI (-30000)))) := by
  refine MuW.start (own := RL) rfl (by decide +kernel) (Nat.le_of_ble_eq_true rfl) ?_
  intro p e s m below meth cd args Q hQ X hr hlk htab hM hPr
  obtain ⟨h_cm, h_co⟩ := hPr
  refine v_aload_n X dL_question_0 1 rfl 0 rfl ?_
  refine v_iload_n X dL_question_1 2 rfl 1 rfl ?_
  refine v_iload_n X dL_question_2 3 rfl 2 rfl ?_
  refine v_iload_n X dL_question_3 4 rfl 3 rfl ?_
  have hht : HT RL "java/util/NoSuchElementException" s [(0, 7, 8, 31), (0, 7, 14, 37), (0, 7, 20, 21)] 4 1 14 := ⟨(0, 7, 14, 37), rfl, rfl, by decide, by decide, xl_L_37, xc_NSE, by
    intro i z hi hz
    rcases (show i = 0 by omega) with rfl
    · cases hz; exact ⟨by decide, _, xl_L_31, hM.C.2.2.2.2.2.2.1 3 2 _ _ (by decide) rfl rfl⟩⟩
  refine v_txC X htab hM (h_cm.1) (x_X9_question_3 l hl E x co hs er fa ss k w f hO gk gw gf hf) kvX9_question kiX9_question kl_L_33 (q0 := 0) rfl rfl (As := [.int (zI k), .int (zI w), .int (zI f)]) rfl rfl rfl dL_question_4 1 14 hht (k' := 1) (n' := 6) rfl rfl (fun q hq => hq.elim) ⟨h_cm, h_co⟩ (fun q9 H1 lo1 hM hF hpo => ?_)
  replace h_cm := h_cm.kept hF 1 rfl (fun q _ _ h => h.elim)
  replace h_co := h_co.kept hF 28 rfl (fun q _ _ h => h.elim)
  show V p l e (rmL 11 1 6) s m args below meth cd Q 5 H1 lo1 1 6 14 [(0, .ref x), (1, .int (zI k)), (2, .int (zI w)), (3, .int (zI f))] [.ref q9]
  refine v_astore X dL_question_14 16 rfl (by decide) (L' := [(4, .ref q9), (0, .ref x), (1, .int (zI k)), (2, .int (zI w)), (3, .int (zI f))]) rfl ?_
  refine v_sipush X dL_question_16 19 rfl rfl ?_
  subst hQ; exact m_iret X hr hlk hM dL_question_19 rfl rfl
set_option maxHeartbeats 4000000 in
set_option maxRecDepth 20000 in
theorem w_X9_question_4_t (l : Launch) (hl : l.stackTraces = false) (E : Nat → Nat → Nat) (x : Nat) (co : Nat → Int → Int) (hs : Int) (er : Int) (fa : Int) (ss : Int) (k : Int) (w : Int) (f : Int) (hO : OkC co) (gk : Rg k) (gw : Rg w) (gf : 0 ≤ f ∧ f ≤ 1) (hf : flC co 3 k w 0 = 4) : MuW l yL_question cL_question 5 (some .int) [(0, 7, 8, 31), (0, 7, 14, 37), (0, 7, 20, 21)] 11 1 6 E [] [.ref x, .int (zI k), .int (zI w), .int (zI f)] (fun H => PR E x [(x, .inr (11, [.ref (x + 1), .ref (x + 29), .ref (x + 57), .ref (x + 85), .ref (x + 311), .ref (x + 314), .ref (x + 319), .ref (x + 332), .int (zI hs), .int (zI er), .int (zI fa), .int (zI ss)]))] H ∧ PR E (x + 1) (courtW E (x + 1) co) H) (fun rv H => rv = some (.int (zI (-10000)))) := by
  refine MuW.start (own := RL) rfl (by decide +kernel) (Nat.le_of_ble_eq_true rfl) ?_
  intro p e s m below meth cd args Q hQ X hr hlk htab hM hPr
  obtain ⟨h_cm, h_co⟩ := hPr
  refine v_aload_n X dL_question_0 1 rfl 0 rfl ?_
  refine v_iload_n X dL_question_1 2 rfl 1 rfl ?_
  refine v_iload_n X dL_question_2 3 rfl 2 rfl ?_
  refine v_iload_n X dL_question_3 4 rfl 3 rfl ?_
  have hht : HT RL "java/lang/IllegalStateException" s [(0, 7, 8, 31), (0, 7, 14, 37), (0, 7, 20, 21)] 4 2 20 := ⟨(0, 7, 20, 21), rfl, rfl, by decide, by decide, xl_L_21, xc_ISE, by
    intro i z hi hz
    rcases (show i = 0 ∨ i = 1 by omega) with rfl | rfl
    · cases hz; exact ⟨by decide, _, xl_L_31, hM.C.2.2.2.2.2.2.1 1 2 _ _ (by decide) rfl rfl⟩
    · cases hz; exact ⟨by decide, _, xl_L_37, hM.C.2.2.2.2.2.2.1 1 3 _ _ (by decide) rfl rfl⟩⟩
  refine v_txC X htab hM (h_cm.1) (x_X9_question_4 l hl E x co hs er fa ss k w f hO gk gw gf hf) kvX9_question kiX9_question kl_L_33 (q0 := 0) rfl rfl (As := [.int (zI k), .int (zI w), .int (zI f)]) rfl rfl rfl dL_question_4 2 20 hht (k' := 1) (n' := 6) rfl rfl (fun q hq => hq.elim) ⟨h_cm, h_co⟩ (fun q9 H1 lo1 hM hF hpo => ?_)
  replace h_cm := h_cm.kept hF 1 rfl (fun q _ _ h => h.elim)
  replace h_co := h_co.kept hF 28 rfl (fun q _ _ h => h.elim)
  show V p l e (rmL 11 1 6) s m args below meth cd Q 5 H1 lo1 1 6 20 [(0, .ref x), (1, .int (zI k)), (2, .int (zI w)), (3, .int (zI f))] [.ref q9]
  refine v_astore X dL_question_20 22 rfl (by decide) (L' := [(4, .ref q9), (0, .ref x), (1, .int (zI k)), (2, .int (zI w)), (3, .int (zI f))]) rfl ?_
  refine v_sipush X dL_question_22 25 rfl rfl ?_
  subst hQ; exact m_iret X hr hlk hM dL_question_25 rfl rfl
set_option maxHeartbeats 4000000 in
set_option maxRecDepth 20000 in
theorem w_X9_decide (l : Launch) (hl : l.stackTraces = false) (E : Nat → Nat → Nat) (x : Nat) (co : Nat → Int → Int) (hs : Int) (er : Int) (fa : Int) (ss : Int) (k : Int) (hc : Nat → Nat → Int → Int) (nx : Int) (sz : Int) (hO : OkC co) (gk : Rg k) (hf : flC co 4 k 0 0 = 0) (n0 : 0 ≤ nx) (n1 : nx < 8) (s0 : 0 ≤ sz) (s1 : sz ≤ 8) (hd_cm_co : x + 1 ≤ x + 1 ∨ x + 1 + 28 ≤ x) (hd_cm_hi : x + 1 ≤ x + 85 ∨ x + 85 + 2 ≤ x) (hd_cm_hf : x + 1 ≤ x + 87 ∨ x + 87 + 224 ≤ x) (hd_co_hi : x + 1 + 28 ≤ x + 85 ∨ x + 85 + 2 ≤ x + 1) (hd_co_hf : x + 1 + 28 ≤ x + 87 ∨ x + 87 + 224 ≤ x + 1) (hd_hi_hf : x + 85 + 2 ≤ x + 87 ∨ x + 87 + 224 ≤ x + 85) : MuW l yL_decide cL_decide 3 (some .int) [(0, 13, 14, 31), (0, 13, 19, 21)] 11 1 6 E [(x + 1, 28), (x + 85, 2), (x + 87, 224)] [.ref x, .int (zI k)] (fun H => PR E x [(x, .inr (11, [.ref (x + 1), .ref (x + 29), .ref (x + 57), .ref (x + 85), .ref (x + 311), .ref (x + 314), .ref (x + 319), .ref (x + 332), .int (zI hs), .int (zI er), .int (zI fa), .int (zI ss)]))] H ∧ PR E (x + 1) (courtW E (x + 1) co) H ∧ PR E (x + 85) [(x + 85, .inr (7, [.ref (x + 86), .int (zI nx), .int (zI sz)])), (x + 86, .inl (E 102 3, 8, .inr (.inr (.inr (.inr (hisA (x + 87) 8))))))] H ∧ HF E (x + 87) 8 hc H) (fun rv H => rv = some (.int (zI (bz (¬ opV co 4 k 0 0 0 = 0)))) ∧ PR E (x + 1) (courtW E (x + 1) (opC co 4 k 0 0 0)) H ∧ PR E (x + 85) [(x + 85, .inr (7, [.ref (x + 86), .int (zI (if nx < 7 then nx + 1 else 0)), .int (zI (min (sz + 1) 8))])), (x + 86, .inl (E 102 3, 8, .inr (.inr (.inr (.inr (hisA (x + 87) 8))))))] H ∧ HF E (x + 87) 8 (fun j => if j = nx.toNat then co else hc j) H) := by
  refine MuW.start (own := RL) rfl (by decide +kernel) (Nat.le_of_ble_eq_true rfl) ?_
  intro p e s m below meth cd args Q hQ X hr hlk htab hM hPr
  obtain ⟨h_cm, h_co, h_hi, h_hf⟩ := hPr
  refine v_aload_n X dL_decide_0 1 rfl 0 rfl ?_
  refine v_iload_n X dL_decide_1 2 rfl 1 rfl ?_
  refine v_muV X hM (h_cm.1) (c_X9_decide l E x co hs er fa ss k hc nx sz hO gk hf n0 n1 s0 s1 hd_cm_co hd_cm_hi hd_cm_hf hd_co_hi hd_co_hf hd_hi_hf) kvX9_decide kiX9_decide kl_L_67 (q0 := 0) rfl rfl (As := [.int (zI k)]) rfl rfl rfl dL_decide_2 5 rfl (k' := 0) (n' := 0) rfl rfl (by intro q hq; simp only [Fr, Fs, or_false, false_or] at hq ⊢; omega) ⟨h_cm, h_co, h_hi, h_hf⟩ (fun rv H1 lo1 hM hF hpo => ?_)
  obtain ⟨rfl, hw_0, hw_1, hw_2⟩ := hpo
  have h_co : PR E (x + 1) (courtW E (x + 1) (opC co 4 k 0 0 0)) H1 := hw_0
  have h_hi : PR E (x + 85) [(x + 85, .inr (7, [.ref (x + 86), .int (zI (if nx < 7 then nx + 1 else 0)), .int (zI (min (sz + 1) 8))])), (x + 86, .inl (E 102 3, 8, .inr (.inr (.inr (.inr (hisA (x + 87) 8))))))] H1 := hw_1
  have h_hf : HF E (x + 87) 8 (fun j => if j = nx.toNat then co else hc j) H1 := hw_2
  replace h_cm := h_cm.kept hF 1 rfl (by intro q q1 q2 q3; simp only [Fs, or_false] at q3; omega)
  show V p l e (rmL 11 1 6) s m args below meth cd Q 3 H1 lo1 0 0 5 [(0, .ref x), (1, .int (zI k))] [.int (zI (bz (¬ opV co 4 k 0 0 0 = 0)))]
  refine v_bif_eq X dL_decide_5 8 12 rfl (by decide) (fun c_2 => ?_) (fun c_2 => ?_)
  · skip
    refine v_iconst X dL_decide_12 13 rfl ?_
    subst hQ; exact m_iret X hr hlk hM dL_decide_13 rfl ⟨(sv (bz_f (by assumption))), h_co, h_hi, h_hf⟩
  · skip
    refine v_iconst X dL_decide_8 9 rfl ?_
    refine v_goto X dL_decide_9 13 (by decide) ?_
    subst hQ; exact m_iret X hr hlk hM dL_decide_13 rfl ⟨(sv (bz_t (by assumption))), h_co, h_hi, h_hf⟩
set_option maxHeartbeats 4000000 in
set_option maxRecDepth 20000 in
theorem w_X9_decide_1_t (l : Launch) (hl : l.stackTraces = false) (E : Nat → Nat → Nat) (x : Nat) (co : Nat → Int → Int) (hs : Int) (er : Int) (fa : Int) (ss : Int) (k : Int) (hO : OkC co) (gk : Rg k) (hf : flC co 4 k 0 0 = 1) : MuW l yL_decide cL_decide 3 (some .int) [(0, 13, 14, 31), (0, 13, 19, 21)] 11 1 6 E [] [.ref x, .int (zI k)] (fun H => PR E x [(x, .inr (11, [.ref (x + 1), .ref (x + 29), .ref (x + 57), .ref (x + 85), .ref (x + 311), .ref (x + 314), .ref (x + 319), .ref (x + 332), .int (zI hs), .int (zI er), .int (zI fa), .int (zI ss)]))] H ∧ PR E (x + 1) (courtW E (x + 1) co) H) (fun rv H => rv = some (.int (zI (-25000)))) := by
  refine MuW.start (own := RL) rfl (by decide +kernel) (Nat.le_of_ble_eq_true rfl) ?_
  intro p e s m below meth cd args Q hQ X hr hlk htab hM hPr
  obtain ⟨h_cm, h_co⟩ := hPr
  refine v_aload_n X dL_decide_0 1 rfl 0 rfl ?_
  refine v_iload_n X dL_decide_1 2 rfl 1 rfl ?_
  have hht : HT RL "java/lang/IndexOutOfBoundsException" s [(0, 13, 14, 31), (0, 13, 19, 21)] 2 0 14 := ⟨(0, 13, 14, 31), rfl, rfl, by decide, by decide, xl_L_31, xc_IOB, by
    intro i z hi hz
    omega⟩
  refine v_txC X htab hM (h_cm.1) (x_X9_decide_1 l hl E x co hs er fa ss k hO gk hf) kvX9_decide kiX9_decide kl_L_67 (q0 := 0) rfl rfl (As := [.int (zI k)]) rfl rfl rfl dL_decide_2 0 14 hht (k' := 1) (n' := 6) rfl rfl (fun q hq => hq.elim) ⟨h_cm, h_co⟩ (fun q9 H1 lo1 hM hF hpo => ?_)
  replace h_cm := h_cm.kept hF 1 rfl (fun q _ _ h => h.elim)
  replace h_co := h_co.kept hF 28 rfl (fun q _ _ h => h.elim)
  show V p l e (rmL 11 1 6) s m args below meth cd Q 3 H1 lo1 1 6 14 [(0, .ref x), (1, .int (zI k))] [.ref q9]
  refine v_astore_n X dL_decide_14 15 rfl rfl (by decide) (L' := [(2, .ref q9), (0, .ref x), (1, .int (zI k))]) rfl ?_
  refine v_sipush X dL_decide_15 18 rfl rfl ?_
  subst hQ; exact m_iret X hr hlk hM dL_decide_18 rfl rfl
set_option maxHeartbeats 4000000 in
set_option maxRecDepth 20000 in
theorem w_X9_decide_4_t (l : Launch) (hl : l.stackTraces = false) (E : Nat → Nat → Nat) (x : Nat) (co : Nat → Int → Int) (hs : Int) (er : Int) (fa : Int) (ss : Int) (k : Int) (hO : OkC co) (gk : Rg k) (hf : flC co 4 k 0 0 = 4) : MuW l yL_decide cL_decide 3 (some .int) [(0, 13, 14, 31), (0, 13, 19, 21)] 11 1 6 E [] [.ref x, .int (zI k)] (fun H => PR E x [(x, .inr (11, [.ref (x + 1), .ref (x + 29), .ref (x + 57), .ref (x + 85), .ref (x + 311), .ref (x + 314), .ref (x + 319), .ref (x + 332), .int (zI hs), .int (zI er), .int (zI fa), .int (zI ss)]))] H ∧ PR E (x + 1) (courtW E (x + 1) co) H) (fun rv H => rv = some (.int (zI (-10000)))) := by
  refine MuW.start (own := RL) rfl (by decide +kernel) (Nat.le_of_ble_eq_true rfl) ?_
  intro p e s m below meth cd args Q hQ X hr hlk htab hM hPr
  obtain ⟨h_cm, h_co⟩ := hPr
  refine v_aload_n X dL_decide_0 1 rfl 0 rfl ?_
  refine v_iload_n X dL_decide_1 2 rfl 1 rfl ?_
  have hht : HT RL "java/lang/IllegalStateException" s [(0, 13, 14, 31), (0, 13, 19, 21)] 2 1 19 := ⟨(0, 13, 19, 21), rfl, rfl, by decide, by decide, xl_L_21, xc_ISE, by
    intro i z hi hz
    rcases (show i = 0 by omega) with rfl
    · cases hz; exact ⟨by decide, _, xl_L_31, hM.C.2.2.2.2.2.2.1 1 2 _ _ (by decide) rfl rfl⟩⟩
  refine v_txC X htab hM (h_cm.1) (x_X9_decide_4 l hl E x co hs er fa ss k hO gk hf) kvX9_decide kiX9_decide kl_L_67 (q0 := 0) rfl rfl (As := [.int (zI k)]) rfl rfl rfl dL_decide_2 1 19 hht (k' := 1) (n' := 6) rfl rfl (fun q hq => hq.elim) ⟨h_cm, h_co⟩ (fun q9 H1 lo1 hM hF hpo => ?_)
  replace h_cm := h_cm.kept hF 1 rfl (fun q _ _ h => h.elim)
  replace h_co := h_co.kept hF 28 rfl (fun q _ _ h => h.elim)
  show V p l e (rmL 11 1 6) s m args below meth cd Q 3 H1 lo1 1 6 19 [(0, .ref x), (1, .int (zI k))] [.ref q9]
  refine v_astore_n X dL_decide_19 20 rfl rfl (by decide) (L' := [(2, .ref q9), (0, .ref x), (1, .int (zI k))]) rfl ?_
  refine v_sipush X dL_decide_20 23 rfl rfl ?_
  subst hQ; exact m_iret X hr hlk hM dL_decide_23 rfl rfl
set_option maxHeartbeats 4000000 in
set_option maxRecDepth 20000 in
theorem w_X9_appeal (l : Launch) (hl : l.stackTraces = false) (E : Nat → Nat → Nat) (x : Nat) (co : Nat → Int → Int) (hs : Int) (er : Int) (fa : Int) (ss : Int) (k : Int) (hc : Nat → Nat → Int → Int) (nx : Int) (sz : Int) (hO : OkC co) (gk : Rg k) (hf : flC co 5 k 0 0 = 0) (n0 : 0 ≤ nx) (n1 : nx < 8) (s0 : 0 ≤ sz) (s1 : sz ≤ 8) (hd_cm_co : x + 1 ≤ x + 1 ∨ x + 1 + 28 ≤ x) (hd_cm_hi : x + 1 ≤ x + 85 ∨ x + 85 + 2 ≤ x) (hd_cm_hf : x + 1 ≤ x + 87 ∨ x + 87 + 224 ≤ x) (hd_co_hi : x + 1 + 28 ≤ x + 85 ∨ x + 85 + 2 ≤ x + 1) (hd_co_hf : x + 1 + 28 ≤ x + 87 ∨ x + 87 + 224 ≤ x + 1) (hd_hi_hf : x + 85 + 2 ≤ x + 87 ∨ x + 87 + 224 ≤ x + 85) : MuW l yL_appeal cL_appeal 3 (some .int) [(0, 5, 6, 31), (0, 5, 11, 21)] 11 1 6 E [(x + 1, 28), (x + 85, 2), (x + 87, 224)] [.ref x, .int (zI k)] (fun H => PR E x [(x, .inr (11, [.ref (x + 1), .ref (x + 29), .ref (x + 57), .ref (x + 85), .ref (x + 311), .ref (x + 314), .ref (x + 319), .ref (x + 332), .int (zI hs), .int (zI er), .int (zI fa), .int (zI ss)]))] H ∧ PR E (x + 1) (courtW E (x + 1) co) H ∧ PR E (x + 85) [(x + 85, .inr (7, [.ref (x + 86), .int (zI nx), .int (zI sz)])), (x + 86, .inl (E 102 3, 8, .inr (.inr (.inr (.inr (hisA (x + 87) 8))))))] H ∧ HF E (x + 87) 8 hc H) (fun rv H => rv = some (.int (zI (opV co 5 k 0 0 0))) ∧ PR E (x + 1) (courtW E (x + 1) (opC co 5 k 0 0 0)) H ∧ PR E (x + 85) [(x + 85, .inr (7, [.ref (x + 86), .int (zI (if nx < 7 then nx + 1 else 0)), .int (zI (min (sz + 1) 8))])), (x + 86, .inl (E 102 3, 8, .inr (.inr (.inr (.inr (hisA (x + 87) 8))))))] H ∧ HF E (x + 87) 8 (fun j => if j = nx.toNat then co else hc j) H) := by
  refine MuW.start (own := RL) rfl (by decide +kernel) (Nat.le_of_ble_eq_true rfl) ?_
  intro p e s m below meth cd args Q hQ X hr hlk htab hM hPr
  obtain ⟨h_cm, h_co, h_hi, h_hf⟩ := hPr
  refine v_aload_n X dL_appeal_0 1 rfl 0 rfl ?_
  refine v_iload_n X dL_appeal_1 2 rfl 1 rfl ?_
  refine v_muV X hM (h_cm.1) (c_X9_appeal l E x co hs er fa ss k hc nx sz hO gk hf n0 n1 s0 s1 hd_cm_co hd_cm_hi hd_cm_hf hd_co_hi hd_co_hf hd_hi_hf) kvX9_appeal kiX9_appeal kl_L_39 (q0 := 0) rfl rfl (As := [.int (zI k)]) rfl rfl rfl dL_appeal_2 5 rfl (k' := 0) (n' := 0) rfl rfl (by intro q hq; simp only [Fr, Fs, or_false, false_or] at hq ⊢; omega) ⟨h_cm, h_co, h_hi, h_hf⟩ (fun rv H1 lo1 hM hF hpo => ?_)
  obtain ⟨rfl, hw_0, hw_1, hw_2⟩ := hpo
  have h_co : PR E (x + 1) (courtW E (x + 1) (opC co 5 k 0 0 0)) H1 := hw_0
  have h_hi : PR E (x + 85) [(x + 85, .inr (7, [.ref (x + 86), .int (zI (if nx < 7 then nx + 1 else 0)), .int (zI (min (sz + 1) 8))])), (x + 86, .inl (E 102 3, 8, .inr (.inr (.inr (.inr (hisA (x + 87) 8))))))] H1 := hw_1
  have h_hf : HF E (x + 87) 8 (fun j => if j = nx.toNat then co else hc j) H1 := hw_2
  replace h_cm := h_cm.kept hF 1 rfl (by intro q q1 q2 q3; simp only [Fs, or_false] at q3; omega)
  show V p l e (rmL 11 1 6) s m args below meth cd Q 3 H1 lo1 0 0 5 [(0, .ref x), (1, .int (zI k))] [.int (zI (opV co 5 k 0 0 0))]
  have hb_2 := hO.b5 k
  subst hQ; exact m_iret X hr hlk hM dL_appeal_5 rfl ⟨rfl, h_co, h_hi, h_hf⟩
set_option maxHeartbeats 4000000 in
set_option maxRecDepth 20000 in
theorem w_X9_appeal_1_t (l : Launch) (hl : l.stackTraces = false) (E : Nat → Nat → Nat) (x : Nat) (co : Nat → Int → Int) (hs : Int) (er : Int) (fa : Int) (ss : Int) (k : Int) (hO : OkC co) (gk : Rg k) (hf : flC co 5 k 0 0 = 1) : MuW l yL_appeal cL_appeal 3 (some .int) [(0, 5, 6, 31), (0, 5, 11, 21)] 11 1 6 E [] [.ref x, .int (zI k)] (fun H => PR E x [(x, .inr (11, [.ref (x + 1), .ref (x + 29), .ref (x + 57), .ref (x + 85), .ref (x + 311), .ref (x + 314), .ref (x + 319), .ref (x + 332), .int (zI hs), .int (zI er), .int (zI fa), .int (zI ss)]))] H ∧ PR E (x + 1) (courtW E (x + 1) co) H) (fun rv H => rv = some (.int (zI (-25000)))) := by
  refine MuW.start (own := RL) rfl (by decide +kernel) (Nat.le_of_ble_eq_true rfl) ?_
  intro p e s m below meth cd args Q hQ X hr hlk htab hM hPr
  obtain ⟨h_cm, h_co⟩ := hPr
  refine v_aload_n X dL_appeal_0 1 rfl 0 rfl ?_
  refine v_iload_n X dL_appeal_1 2 rfl 1 rfl ?_
  have hht : HT RL "java/lang/IndexOutOfBoundsException" s [(0, 5, 6, 31), (0, 5, 11, 21)] 2 0 6 := ⟨(0, 5, 6, 31), rfl, rfl, by decide, by decide, xl_L_31, xc_IOB, by
    intro i z hi hz
    omega⟩
  refine v_txC X htab hM (h_cm.1) (x_X9_appeal_1 l hl E x co hs er fa ss k hO gk hf) kvX9_appeal kiX9_appeal kl_L_39 (q0 := 0) rfl rfl (As := [.int (zI k)]) rfl rfl rfl dL_appeal_2 0 6 hht (k' := 1) (n' := 6) rfl rfl (fun q hq => hq.elim) ⟨h_cm, h_co⟩ (fun q9 H1 lo1 hM hF hpo => ?_)
  replace h_cm := h_cm.kept hF 1 rfl (fun q _ _ h => h.elim)
  replace h_co := h_co.kept hF 28 rfl (fun q _ _ h => h.elim)
  show V p l e (rmL 11 1 6) s m args below meth cd Q 3 H1 lo1 1 6 6 [(0, .ref x), (1, .int (zI k))] [.ref q9]
  refine v_astore_n X dL_appeal_6 7 rfl rfl (by decide) (L' := [(2, .ref q9), (0, .ref x), (1, .int (zI k))]) rfl ?_
  refine v_sipush X dL_appeal_7 10 rfl rfl ?_
  subst hQ; exact m_iret X hr hlk hM dL_appeal_10 rfl rfl
set_option maxHeartbeats 4000000 in
set_option maxRecDepth 20000 in
theorem w_X9_appeal_4_t (l : Launch) (hl : l.stackTraces = false) (E : Nat → Nat → Nat) (x : Nat) (co : Nat → Int → Int) (hs : Int) (er : Int) (fa : Int) (ss : Int) (k : Int) (hO : OkC co) (gk : Rg k) (hf : flC co 5 k 0 0 = 4) : MuW l yL_appeal cL_appeal 3 (some .int) [(0, 5, 6, 31), (0, 5, 11, 21)] 11 1 6 E [] [.ref x, .int (zI k)] (fun H => PR E x [(x, .inr (11, [.ref (x + 1), .ref (x + 29), .ref (x + 57), .ref (x + 85), .ref (x + 311), .ref (x + 314), .ref (x + 319), .ref (x + 332), .int (zI hs), .int (zI er), .int (zI fa), .int (zI ss)]))] H ∧ PR E (x + 1) (courtW E (x + 1) co) H) (fun rv H => rv = some (.int (zI (-10000)))) := by
  refine MuW.start (own := RL) rfl (by decide +kernel) (Nat.le_of_ble_eq_true rfl) ?_
  intro p e s m below meth cd args Q hQ X hr hlk htab hM hPr
  obtain ⟨h_cm, h_co⟩ := hPr
  refine v_aload_n X dL_appeal_0 1 rfl 0 rfl ?_
  refine v_iload_n X dL_appeal_1 2 rfl 1 rfl ?_
  have hht : HT RL "java/lang/IllegalStateException" s [(0, 5, 6, 31), (0, 5, 11, 21)] 2 1 11 := ⟨(0, 5, 11, 21), rfl, rfl, by decide, by decide, xl_L_21, xc_ISE, by
    intro i z hi hz
    rcases (show i = 0 by omega) with rfl
    · cases hz; exact ⟨by decide, _, xl_L_31, hM.C.2.2.2.2.2.2.1 1 2 _ _ (by decide) rfl rfl⟩⟩
  refine v_txC X htab hM (h_cm.1) (x_X9_appeal_4 l hl E x co hs er fa ss k hO gk hf) kvX9_appeal kiX9_appeal kl_L_39 (q0 := 0) rfl rfl (As := [.int (zI k)]) rfl rfl rfl dL_appeal_2 1 11 hht (k' := 1) (n' := 6) rfl rfl (fun q hq => hq.elim) ⟨h_cm, h_co⟩ (fun q9 H1 lo1 hM hF hpo => ?_)
  replace h_cm := h_cm.kept hF 1 rfl (fun q _ _ h => h.elim)
  replace h_co := h_co.kept hF 28 rfl (fun q _ _ h => h.elim)
  show V p l e (rmL 11 1 6) s m args below meth cd Q 3 H1 lo1 1 6 11 [(0, .ref x), (1, .int (zI k))] [.ref q9]
  refine v_astore_n X dL_appeal_11 12 rfl rfl (by decide) (L' := [(2, .ref q9), (0, .ref x), (1, .int (zI k))]) rfl ?_
  refine v_sipush X dL_appeal_12 15 rfl rfl ?_
  subst hQ; exact m_iret X hr hlk hM dL_appeal_15 rfl rfl
set_option maxHeartbeats 4000000 in
set_option maxRecDepth 20000 in
theorem w_X9_close (l : Launch) (hl : l.stackTraces = false) (E : Nat → Nat → Nat) (x : Nat) (co : Nat → Int → Int) (hs : Int) (er : Int) (fa : Int) (ss : Int) (k : Int) (hc : Nat → Nat → Int → Int) (nx : Int) (sz : Int) (hO : OkC co) (gk : Rg k) (hf : flC co 6 k 0 0 = 0) (n0 : 0 ≤ nx) (n1 : nx < 8) (s0 : 0 ≤ sz) (s1 : sz ≤ 8) (hd_cm_co : x + 1 ≤ x + 1 ∨ x + 1 + 28 ≤ x) (hd_cm_hi : x + 1 ≤ x + 85 ∨ x + 85 + 2 ≤ x) (hd_cm_hf : x + 1 ≤ x + 87 ∨ x + 87 + 224 ≤ x) (hd_co_hi : x + 1 + 28 ≤ x + 85 ∨ x + 85 + 2 ≤ x + 1) (hd_co_hf : x + 1 + 28 ≤ x + 87 ∨ x + 87 + 224 ≤ x + 1) (hd_hi_hf : x + 85 + 2 ≤ x + 87 ∨ x + 87 + 224 ≤ x + 85) : MuW l yL_close cL_close 3 (some .int) [(0, 5, 6, 31), (0, 5, 11, 21)] 11 1 6 E [(x + 1, 28), (x + 85, 2), (x + 87, 224)] [.ref x, .int (zI k)] (fun H => PR E x [(x, .inr (11, [.ref (x + 1), .ref (x + 29), .ref (x + 57), .ref (x + 85), .ref (x + 311), .ref (x + 314), .ref (x + 319), .ref (x + 332), .int (zI hs), .int (zI er), .int (zI fa), .int (zI ss)]))] H ∧ PR E (x + 1) (courtW E (x + 1) co) H ∧ PR E (x + 85) [(x + 85, .inr (7, [.ref (x + 86), .int (zI nx), .int (zI sz)])), (x + 86, .inl (E 102 3, 8, .inr (.inr (.inr (.inr (hisA (x + 87) 8))))))] H ∧ HF E (x + 87) 8 hc H) (fun rv H => rv = some (.int (zI (opV co 6 k 0 0 0))) ∧ PR E (x + 1) (courtW E (x + 1) (opC co 6 k 0 0 0)) H ∧ PR E (x + 85) [(x + 85, .inr (7, [.ref (x + 86), .int (zI (if nx < 7 then nx + 1 else 0)), .int (zI (min (sz + 1) 8))])), (x + 86, .inl (E 102 3, 8, .inr (.inr (.inr (.inr (hisA (x + 87) 8))))))] H ∧ HF E (x + 87) 8 (fun j => if j = nx.toNat then co else hc j) H) := by
  refine MuW.start (own := RL) rfl (by decide +kernel) (Nat.le_of_ble_eq_true rfl) ?_
  intro p e s m below meth cd args Q hQ X hr hlk htab hM hPr
  obtain ⟨h_cm, h_co, h_hi, h_hf⟩ := hPr
  refine v_aload_n X dL_close_0 1 rfl 0 rfl ?_
  refine v_iload_n X dL_close_1 2 rfl 1 rfl ?_
  refine v_muV X hM (h_cm.1) (c_X9_close l E x co hs er fa ss k hc nx sz hO gk hf n0 n1 s0 s1 hd_cm_co hd_cm_hi hd_cm_hf hd_co_hi hd_co_hf hd_hi_hf) kvX9_close kiX9_close kl_L_42 (q0 := 0) rfl rfl (As := [.int (zI k)]) rfl rfl rfl dL_close_2 5 rfl (k' := 0) (n' := 0) rfl rfl (by intro q hq; simp only [Fr, Fs, or_false, false_or] at hq ⊢; omega) ⟨h_cm, h_co, h_hi, h_hf⟩ (fun rv H1 lo1 hM hF hpo => ?_)
  obtain ⟨rfl, hw_0, hw_1, hw_2⟩ := hpo
  have h_co : PR E (x + 1) (courtW E (x + 1) (opC co 6 k 0 0 0)) H1 := hw_0
  have h_hi : PR E (x + 85) [(x + 85, .inr (7, [.ref (x + 86), .int (zI (if nx < 7 then nx + 1 else 0)), .int (zI (min (sz + 1) 8))])), (x + 86, .inl (E 102 3, 8, .inr (.inr (.inr (.inr (hisA (x + 87) 8))))))] H1 := hw_1
  have h_hf : HF E (x + 87) 8 (fun j => if j = nx.toNat then co else hc j) H1 := hw_2
  replace h_cm := h_cm.kept hF 1 rfl (by intro q q1 q2 q3; simp only [Fs, or_false] at q3; omega)
  show V p l e (rmL 11 1 6) s m args below meth cd Q 3 H1 lo1 0 0 5 [(0, .ref x), (1, .int (zI k))] [.int (zI (opV co 6 k 0 0 0))]
  have hb_2 := hO.b6 k
  subst hQ; exact m_iret X hr hlk hM dL_close_5 rfl ⟨rfl, h_co, h_hi, h_hf⟩
set_option maxHeartbeats 4000000 in
set_option maxRecDepth 20000 in
theorem w_X9_close_1_t (l : Launch) (hl : l.stackTraces = false) (E : Nat → Nat → Nat) (x : Nat) (co : Nat → Int → Int) (hs : Int) (er : Int) (fa : Int) (ss : Int) (k : Int) (hO : OkC co) (gk : Rg k) (hf : flC co 6 k 0 0 = 1) : MuW l yL_close cL_close 3 (some .int) [(0, 5, 6, 31), (0, 5, 11, 21)] 11 1 6 E [] [.ref x, .int (zI k)] (fun H => PR E x [(x, .inr (11, [.ref (x + 1), .ref (x + 29), .ref (x + 57), .ref (x + 85), .ref (x + 311), .ref (x + 314), .ref (x + 319), .ref (x + 332), .int (zI hs), .int (zI er), .int (zI fa), .int (zI ss)]))] H ∧ PR E (x + 1) (courtW E (x + 1) co) H) (fun rv H => rv = some (.int (zI (-25000)))) := by
  refine MuW.start (own := RL) rfl (by decide +kernel) (Nat.le_of_ble_eq_true rfl) ?_
  intro p e s m below meth cd args Q hQ X hr hlk htab hM hPr
  obtain ⟨h_cm, h_co⟩ := hPr
  refine v_aload_n X dL_close_0 1 rfl 0 rfl ?_
  refine v_iload_n X dL_close_1 2 rfl 1 rfl ?_
  have hht : HT RL "java/lang/IndexOutOfBoundsException" s [(0, 5, 6, 31), (0, 5, 11, 21)] 2 0 6 := ⟨(0, 5, 6, 31), rfl, rfl, by decide, by decide, xl_L_31, xc_IOB, by
    intro i z hi hz
    omega⟩
  refine v_txC X htab hM (h_cm.1) (x_X9_close_1 l hl E x co hs er fa ss k hO gk hf) kvX9_close kiX9_close kl_L_42 (q0 := 0) rfl rfl (As := [.int (zI k)]) rfl rfl rfl dL_close_2 0 6 hht (k' := 1) (n' := 6) rfl rfl (fun q hq => hq.elim) ⟨h_cm, h_co⟩ (fun q9 H1 lo1 hM hF hpo => ?_)
  replace h_cm := h_cm.kept hF 1 rfl (fun q _ _ h => h.elim)
  replace h_co := h_co.kept hF 28 rfl (fun q _ _ h => h.elim)
  show V p l e (rmL 11 1 6) s m args below meth cd Q 3 H1 lo1 1 6 6 [(0, .ref x), (1, .int (zI k))] [.ref q9]
  refine v_astore_n X dL_close_6 7 rfl rfl (by decide) (L' := [(2, .ref q9), (0, .ref x), (1, .int (zI k))]) rfl ?_
  refine v_sipush X dL_close_7 10 rfl rfl ?_
  subst hQ; exact m_iret X hr hlk hM dL_close_10 rfl rfl
set_option maxHeartbeats 4000000 in
set_option maxRecDepth 20000 in
theorem w_X9_close_4_t (l : Launch) (hl : l.stackTraces = false) (E : Nat → Nat → Nat) (x : Nat) (co : Nat → Int → Int) (hs : Int) (er : Int) (fa : Int) (ss : Int) (k : Int) (hO : OkC co) (gk : Rg k) (hf : flC co 6 k 0 0 = 4) : MuW l yL_close cL_close 3 (some .int) [(0, 5, 6, 31), (0, 5, 11, 21)] 11 1 6 E [] [.ref x, .int (zI k)] (fun H => PR E x [(x, .inr (11, [.ref (x + 1), .ref (x + 29), .ref (x + 57), .ref (x + 85), .ref (x + 311), .ref (x + 314), .ref (x + 319), .ref (x + 332), .int (zI hs), .int (zI er), .int (zI fa), .int (zI ss)]))] H ∧ PR E (x + 1) (courtW E (x + 1) co) H) (fun rv H => rv = some (.int (zI (-10000)))) := by
  refine MuW.start (own := RL) rfl (by decide +kernel) (Nat.le_of_ble_eq_true rfl) ?_
  intro p e s m below meth cd args Q hQ X hr hlk htab hM hPr
  obtain ⟨h_cm, h_co⟩ := hPr
  refine v_aload_n X dL_close_0 1 rfl 0 rfl ?_
  refine v_iload_n X dL_close_1 2 rfl 1 rfl ?_
  have hht : HT RL "java/lang/IllegalStateException" s [(0, 5, 6, 31), (0, 5, 11, 21)] 2 1 11 := ⟨(0, 5, 11, 21), rfl, rfl, by decide, by decide, xl_L_21, xc_ISE, by
    intro i z hi hz
    rcases (show i = 0 by omega) with rfl
    · cases hz; exact ⟨by decide, _, xl_L_31, hM.C.2.2.2.2.2.2.1 1 2 _ _ (by decide) rfl rfl⟩⟩
  refine v_txC X htab hM (h_cm.1) (x_X9_close_4 l hl E x co hs er fa ss k hO gk hf) kvX9_close kiX9_close kl_L_42 (q0 := 0) rfl rfl (As := [.int (zI k)]) rfl rfl rfl dL_close_2 1 11 hht (k' := 1) (n' := 6) rfl rfl (fun q hq => hq.elim) ⟨h_cm, h_co⟩ (fun q9 H1 lo1 hM hF hpo => ?_)
  replace h_cm := h_cm.kept hF 1 rfl (fun q _ _ h => h.elim)
  replace h_co := h_co.kept hF 28 rfl (fun q _ _ h => h.elim)
  show V p l e (rmL 11 1 6) s m args below meth cd Q 3 H1 lo1 1 6 11 [(0, .ref x), (1, .int (zI k))] [.ref q9]
  refine v_astore_n X dL_close_11 12 rfl rfl (by decide) (L' := [(2, .ref q9), (0, .ref x), (1, .int (zI k))]) rfl ?_
  refine v_sipush X dL_close_12 15 rfl rfl ?_
  subst hQ; exact m_iret X hr hlk hM dL_close_15 rfl rfl
set_option maxHeartbeats 4000000 in
set_option maxRecDepth 20000 in
theorem w_X9_witnessAt (l : Launch) (hl : l.stackTraces = false) (E : Nat → Nat → Nat) (x : Nat) (co : Nat → Int → Int) (hs : Int) (er : Int) (fa : Int) (ss : Int) (k : Int) (q : Int) (hO : OkC co) (gk : Rg k) (gq : Rg q) (k0 : 0 ≤ k ∧ k < co 0 0) (k1 : 0 ≤ q ∧ q < co 6 k) : MuW l yL_witnessAt cL_witnessAt 4 (some .int) [(0, 6, 7, 31), (0, 6, 12, 37)] 9 1 6 E [] [.ref x, .int (zI k), .int (zI q)] (fun H => PR E x [(x, .inr (11, [.ref (x + 1), .ref (x + 29), .ref (x + 57), .ref (x + 85), .ref (x + 311), .ref (x + 314), .ref (x + 319), .ref (x + 332), .int (zI hs), .int (zI er), .int (zI fa), .int (zI ss)]))] H ∧ PR E (x + 1) (courtW E (x + 1) co) H) (fun rv H => rv = some (.int (zI (co 7 (k * 6 + q))))) := by
  refine MuW.start (own := RL) rfl (by decide +kernel) (Nat.le_of_ble_eq_true rfl) ?_
  intro p e s m below meth cd args Q hQ X hr hlk htab hM hPr
  obtain ⟨h_cm, h_co⟩ := hPr
  refine v_aload_n X dL_witnessAt_0 1 rfl 0 rfl ?_
  refine v_iload_n X dL_witnessAt_1 2 rfl 1 rfl ?_
  refine v_iload_n X dL_witnessAt_2 3 rfl 2 rfl ?_
  refine v_rdV X hM.C (PW.app h_cm.1 h_co.1) (c_X9_witnessAt l E x co hs er fa ss k q hO gk gq k0 k1) kvX9_witnessAt kiX9_witnessAt kl_L_45 rfl rfl (As := [.int (zI k), .int (zI q)]) rfl rfl rfl dL_witnessAt_3 6 rfl ?_
  show V p l e (rmL 9 1 6) s m args below meth cd Q 4 s.heap [] 0 0 6 [(0, .ref x), (1, .int (zI k)), (2, .int (zI q))] [.int (zI (co 7 (k * 6 + q)))]
  have hb_1 := hO.b7 (k * 6 + q)
  subst hQ; exact m_iret X hr hlk hM dL_witnessAt_6 rfl rfl
set_option maxHeartbeats 4000000 in
set_option maxRecDepth 20000 in
theorem w_X9_witnessAt_0_t (l : Launch) (hl : l.stackTraces = false) (E : Nat → Nat → Nat) (x : Nat) (co : Nat → Int → Int) (hs : Int) (er : Int) (fa : Int) (ss : Int) (k : Int) (q : Int) (hO : OkC co) (gk : Rg k) (gq : Rg q) (nk : ¬ (0 ≤ k ∧ k < co 0 0)) : MuW l yL_witnessAt cL_witnessAt 4 (some .int) [(0, 6, 7, 31), (0, 6, 12, 37)] 9 1 6 E [] [.ref x, .int (zI k), .int (zI q)] (fun H => PR E x [(x, .inr (11, [.ref (x + 1), .ref (x + 29), .ref (x + 57), .ref (x + 85), .ref (x + 311), .ref (x + 314), .ref (x + 319), .ref (x + 332), .int (zI hs), .int (zI er), .int (zI fa), .int (zI ss)]))] H ∧ PR E (x + 1) (courtW E (x + 1) co) H) (fun rv H => rv = some (.int (zI (-25000)))) := by
  refine MuW.start (own := RL) rfl (by decide +kernel) (Nat.le_of_ble_eq_true rfl) ?_
  intro p e s m below meth cd args Q hQ X hr hlk htab hM hPr
  obtain ⟨h_cm, h_co⟩ := hPr
  refine v_aload_n X dL_witnessAt_0 1 rfl 0 rfl ?_
  refine v_iload_n X dL_witnessAt_1 2 rfl 1 rfl ?_
  refine v_iload_n X dL_witnessAt_2 3 rfl 2 rfl ?_
  have hht : HT RL "java/lang/IndexOutOfBoundsException" s [(0, 6, 7, 31), (0, 6, 12, 37)] 3 0 7 := ⟨(0, 6, 7, 31), rfl, rfl, by decide, by decide, xl_L_31, xc_IOB, by
    intro i z hi hz
    omega⟩
  refine v_txC X htab hM (h_cm.1) (x_X9_witnessAt_0 l hl E x co hs er fa ss k q hO gk gq nk) kvX9_witnessAt kiX9_witnessAt kl_L_45 (q0 := 0) rfl rfl (As := [.int (zI k), .int (zI q)]) rfl rfl rfl dL_witnessAt_3 0 7 hht (k' := 1) (n' := 6) rfl rfl (fun q hq => hq.elim) ⟨h_cm, h_co⟩ (fun q9 H1 lo1 hM hF hpo => ?_)
  replace h_cm := h_cm.kept hF 1 rfl (fun q _ _ h => h.elim)
  replace h_co := h_co.kept hF 28 rfl (fun q _ _ h => h.elim)
  show V p l e (rmL 9 1 6) s m args below meth cd Q 4 H1 lo1 1 6 7 [(0, .ref x), (1, .int (zI k)), (2, .int (zI q))] [.ref q9]
  refine v_astore_n X dL_witnessAt_7 8 rfl rfl (by decide) (L' := [(3, .ref q9), (0, .ref x), (1, .int (zI k)), (2, .int (zI q))]) rfl ?_
  refine v_sipush X dL_witnessAt_8 11 rfl rfl ?_
  subst hQ; exact m_iret X hr hlk hM dL_witnessAt_11 rfl rfl
set_option maxHeartbeats 4000000 in
set_option maxRecDepth 20000 in
theorem w_X9_witnessAt_1_t (l : Launch) (hl : l.stackTraces = false) (E : Nat → Nat → Nat) (x : Nat) (co : Nat → Int → Int) (hs : Int) (er : Int) (fa : Int) (ss : Int) (k : Int) (q : Int) (hO : OkC co) (gk : Rg k) (gq : Rg q) (k0 : 0 ≤ k ∧ k < co 0 0) (nk : ¬ (0 ≤ q ∧ q < co 6 k)) : MuW l yL_witnessAt cL_witnessAt 4 (some .int) [(0, 6, 7, 31), (0, 6, 12, 37)] 9 1 6 E [] [.ref x, .int (zI k), .int (zI q)] (fun H => PR E x [(x, .inr (11, [.ref (x + 1), .ref (x + 29), .ref (x + 57), .ref (x + 85), .ref (x + 311), .ref (x + 314), .ref (x + 319), .ref (x + 332), .int (zI hs), .int (zI er), .int (zI fa), .int (zI ss)]))] H ∧ PR E (x + 1) (courtW E (x + 1) co) H) (fun rv H => rv = some (.int (zI (-30000)))) := by
  refine MuW.start (own := RL) rfl (by decide +kernel) (Nat.le_of_ble_eq_true rfl) ?_
  intro p e s m below meth cd args Q hQ X hr hlk htab hM hPr
  obtain ⟨h_cm, h_co⟩ := hPr
  refine v_aload_n X dL_witnessAt_0 1 rfl 0 rfl ?_
  refine v_iload_n X dL_witnessAt_1 2 rfl 1 rfl ?_
  refine v_iload_n X dL_witnessAt_2 3 rfl 2 rfl ?_
  have hht : HT RL "java/util/NoSuchElementException" s [(0, 6, 7, 31), (0, 6, 12, 37)] 3 1 12 := ⟨(0, 6, 12, 37), rfl, rfl, by decide, by decide, xl_L_37, xc_NSE, by
    intro i z hi hz
    rcases (show i = 0 by omega) with rfl
    · cases hz; exact ⟨by decide, _, xl_L_31, hM.C.2.2.2.2.2.2.1 3 2 _ _ (by decide) rfl rfl⟩⟩
  refine v_txC X htab hM (h_cm.1) (x_X9_witnessAt_1 l hl E x co hs er fa ss k q hO gk gq k0 nk) kvX9_witnessAt kiX9_witnessAt kl_L_45 (q0 := 0) rfl rfl (As := [.int (zI k), .int (zI q)]) rfl rfl rfl dL_witnessAt_3 1 12 hht (k' := 1) (n' := 6) rfl rfl (fun q hq => hq.elim) ⟨h_cm, h_co⟩ (fun q9 H1 lo1 hM hF hpo => ?_)
  replace h_cm := h_cm.kept hF 1 rfl (fun q _ _ h => h.elim)
  replace h_co := h_co.kept hF 28 rfl (fun q _ _ h => h.elim)
  show V p l e (rmL 9 1 6) s m args below meth cd Q 4 H1 lo1 1 6 12 [(0, .ref x), (1, .int (zI k)), (2, .int (zI q))] [.ref q9]
  refine v_astore_n X dL_witnessAt_12 13 rfl rfl (by decide) (L' := [(3, .ref q9), (0, .ref x), (1, .int (zI k)), (2, .int (zI q))]) rfl ?_
  refine v_sipush X dL_witnessAt_13 16 rfl rfl ?_
  subst hQ; exact m_iret X hr hlk hM dL_witnessAt_16 rfl rfl
set_option maxHeartbeats 4000000 in
set_option maxRecDepth 20000 in
theorem w_X9_mostCredible (l : Launch) (hl : l.stackTraces = false) (E : Nat → Nat → Nat) (x : Nat) (co : Nat → Int → Int) (hs : Int) (er : Int) (fa : Int) (ss : Int) (r : Int) (hO : OkC co) (gr : Rg r) (k0 : 0 ≤ firstZ (fun j => rkC co j = r) (co 0 1).toNat) : MuW l yL_mostCredible cL_mostCredible 3 (some .int) [(0, 5, 6, 37)] 9 1 6 E [] [.ref x, .int (zI r)] (fun H => PR E x [(x, .inr (11, [.ref (x + 1), .ref (x + 29), .ref (x + 57), .ref (x + 85), .ref (x + 311), .ref (x + 314), .ref (x + 319), .ref (x + 332), .int (zI hs), .int (zI er), .int (zI fa), .int (zI ss)]))] H ∧ PR E (x + 1) (courtW E (x + 1) co) H) (fun rv H => rv = some (.int (zI (firstZ (fun j => rkC co j = r) (co 0 1).toNat)))) := by
  refine MuW.start (own := RL) rfl (by decide +kernel) (Nat.le_of_ble_eq_true rfl) ?_
  intro p e s m below meth cd args Q hQ X hr hlk htab hM hPr
  obtain ⟨h_cm, h_co⟩ := hPr
  refine v_aload_n X dL_mostCredible_0 1 rfl 0 rfl ?_
  refine v_iload_n X dL_mostCredible_1 2 rfl 1 rfl ?_
  refine v_rdV X hM.C (PW.app h_cm.1 h_co.1) (c_X9_mostCredible l E x co hs er fa ss r hO gr k0) kvX9_mostCredible kiX9_mostCredible kl_L_48 rfl rfl (As := [.int (zI r)]) rfl rfl rfl dL_mostCredible_2 5 rfl ?_
  show V p l e (rmL 9 1 6) s m args below meth cd Q 3 s.heap [] 0 0 5 [(0, .ref x), (1, .int (zI r))] [.int (zI (firstZ (fun j => rkC co j = r) (co 0 1).toNat))]
  have hb_1 := hO.bw
  subst hQ; exact m_iret X hr hlk hM dL_mostCredible_5 rfl rfl
set_option maxHeartbeats 4000000 in
set_option maxRecDepth 20000 in
theorem w_X9_mostCredible_0_t (l : Launch) (hl : l.stackTraces = false) (E : Nat → Nat → Nat) (x : Nat) (co : Nat → Int → Int) (hs : Int) (er : Int) (fa : Int) (ss : Int) (r : Int) (hO : OkC co) (gr : Rg r) (nk : ¬ (0 ≤ firstZ (fun j => rkC co j = r) (co 0 1).toNat)) : MuW l yL_mostCredible cL_mostCredible 3 (some .int) [(0, 5, 6, 37)] 9 1 6 E [] [.ref x, .int (zI r)] (fun H => PR E x [(x, .inr (11, [.ref (x + 1), .ref (x + 29), .ref (x + 57), .ref (x + 85), .ref (x + 311), .ref (x + 314), .ref (x + 319), .ref (x + 332), .int (zI hs), .int (zI er), .int (zI fa), .int (zI ss)]))] H ∧ PR E (x + 1) (courtW E (x + 1) co) H) (fun rv H => rv = some (.int (zI (-30000)))) := by
  refine MuW.start (own := RL) rfl (by decide +kernel) (Nat.le_of_ble_eq_true rfl) ?_
  intro p e s m below meth cd args Q hQ X hr hlk htab hM hPr
  obtain ⟨h_cm, h_co⟩ := hPr
  refine v_aload_n X dL_mostCredible_0 1 rfl 0 rfl ?_
  refine v_iload_n X dL_mostCredible_1 2 rfl 1 rfl ?_
  have hht : HT RL "java/util/NoSuchElementException" s [(0, 5, 6, 37)] 2 0 6 := ⟨(0, 5, 6, 37), rfl, rfl, by decide, by decide, xl_L_37, xc_NSE, by
    intro i z hi hz
    omega⟩
  refine v_txC X htab hM (h_cm.1) (x_X9_mostCredible_0 l hl E x co hs er fa ss r hO gr nk) kvX9_mostCredible kiX9_mostCredible kl_L_48 (q0 := 0) rfl rfl (As := [.int (zI r)]) rfl rfl rfl dL_mostCredible_2 0 6 hht (k' := 1) (n' := 6) rfl rfl (fun q hq => hq.elim) ⟨h_cm, h_co⟩ (fun q9 H1 lo1 hM hF hpo => ?_)
  replace h_cm := h_cm.kept hF 1 rfl (fun q _ _ h => h.elim)
  replace h_co := h_co.kept hF 28 rfl (fun q _ _ h => h.elim)
  show V p l e (rmL 9 1 6) s m args below meth cd Q 3 H1 lo1 1 6 6 [(0, .ref x), (1, .int (zI r))] [.ref q9]
  refine v_astore_n X dL_mostCredible_6 7 rfl rfl (by decide) (L' := [(2, .ref q9), (0, .ref x), (1, .int (zI r))]) rfl ?_
  refine v_sipush X dL_mostCredible_7 10 rfl rfl ?_
  subst hQ; exact m_iret X hr hlk hM dL_mostCredible_10 rfl rfl
set_option maxHeartbeats 4000000 in
set_option maxRecDepth 20000 in
theorem w_X9_heaviestWitness (l : Launch) (hl : l.stackTraces = false) (E : Nat → Nat → Nat) (x : Nat) (co : Nat → Int → Int) (hs : Int) (er : Int) (fa : Int) (ss : Int) (k : Int) (hO : OkC co) (gk : Rg k) (k0 : 0 ≤ k ∧ k < co 0 0) (k1 : 0 < co 6 k) : MuW l yL_heaviestWitness cL_heaviestWitness 3 (some .int) [(0, 5, 6, 31), (0, 5, 11, 37)] 9 1 6 E [] [.ref x, .int (zI k)] (fun H => PR E x [(x, .inr (11, [.ref (x + 1), .ref (x + 29), .ref (x + 57), .ref (x + 85), .ref (x + 311), .ref (x + 314), .ref (x + 319), .ref (x + 332), .int (zI hs), .int (zI er), .int (zI fa), .int (zI ss)]))] H ∧ PR E (x + 1) (courtW E (x + 1) co) H) (fun rv H => rv = some (.int (zI (co 7 (k * 6 + amx (wtC co k) (co 6 k).toNat))))) := by
  refine MuW.start (own := RL) rfl (by decide +kernel) (Nat.le_of_ble_eq_true rfl) ?_
  intro p e s m below meth cd args Q hQ X hr hlk htab hM hPr
  obtain ⟨h_cm, h_co⟩ := hPr
  refine v_aload_n X dL_heaviestWitness_0 1 rfl 0 rfl ?_
  refine v_iload_n X dL_heaviestWitness_1 2 rfl 1 rfl ?_
  refine v_rdV X hM.C (PW.app h_cm.1 h_co.1) (c_X9_heaviestWitness l E x co hs er fa ss k hO gk k0 k1) kvX9_heaviestWitness kiX9_heaviestWitness kl_L_51 rfl rfl (As := [.int (zI k)]) rfl rfl rfl dL_heaviestWitness_2 5 rfl ?_
  show V p l e (rmL 9 1 6) s m args below meth cd Q 3 s.heap [] 0 0 5 [(0, .ref x), (1, .int (zI k))] [.int (zI (co 7 (k * 6 + amx (wtC co k) (co 6 k).toNat)))]
  have hb_1 := hO.b7 (k * 6 + amx (wtC co k) (co 6 k).toNat)
  have hb_2 := hO.b6 k
  subst hQ; exact m_iret X hr hlk hM dL_heaviestWitness_5 rfl rfl
set_option maxHeartbeats 4000000 in
set_option maxRecDepth 20000 in
theorem w_X9_heaviestWitness_0_t (l : Launch) (hl : l.stackTraces = false) (E : Nat → Nat → Nat) (x : Nat) (co : Nat → Int → Int) (hs : Int) (er : Int) (fa : Int) (ss : Int) (k : Int) (hO : OkC co) (gk : Rg k) (nk : ¬ (0 ≤ k ∧ k < co 0 0)) : MuW l yL_heaviestWitness cL_heaviestWitness 3 (some .int) [(0, 5, 6, 31), (0, 5, 11, 37)] 9 1 6 E [] [.ref x, .int (zI k)] (fun H => PR E x [(x, .inr (11, [.ref (x + 1), .ref (x + 29), .ref (x + 57), .ref (x + 85), .ref (x + 311), .ref (x + 314), .ref (x + 319), .ref (x + 332), .int (zI hs), .int (zI er), .int (zI fa), .int (zI ss)]))] H ∧ PR E (x + 1) (courtW E (x + 1) co) H) (fun rv H => rv = some (.int (zI (-25000)))) := by
  refine MuW.start (own := RL) rfl (by decide +kernel) (Nat.le_of_ble_eq_true rfl) ?_
  intro p e s m below meth cd args Q hQ X hr hlk htab hM hPr
  obtain ⟨h_cm, h_co⟩ := hPr
  refine v_aload_n X dL_heaviestWitness_0 1 rfl 0 rfl ?_
  refine v_iload_n X dL_heaviestWitness_1 2 rfl 1 rfl ?_
  have hht : HT RL "java/lang/IndexOutOfBoundsException" s [(0, 5, 6, 31), (0, 5, 11, 37)] 2 0 6 := ⟨(0, 5, 6, 31), rfl, rfl, by decide, by decide, xl_L_31, xc_IOB, by
    intro i z hi hz
    omega⟩
  refine v_txC X htab hM (h_cm.1) (x_X9_heaviestWitness_0 l hl E x co hs er fa ss k hO gk nk) kvX9_heaviestWitness kiX9_heaviestWitness kl_L_51 (q0 := 0) rfl rfl (As := [.int (zI k)]) rfl rfl rfl dL_heaviestWitness_2 0 6 hht (k' := 1) (n' := 6) rfl rfl (fun q hq => hq.elim) ⟨h_cm, h_co⟩ (fun q9 H1 lo1 hM hF hpo => ?_)
  replace h_cm := h_cm.kept hF 1 rfl (fun q _ _ h => h.elim)
  replace h_co := h_co.kept hF 28 rfl (fun q _ _ h => h.elim)
  show V p l e (rmL 9 1 6) s m args below meth cd Q 3 H1 lo1 1 6 6 [(0, .ref x), (1, .int (zI k))] [.ref q9]
  refine v_astore_n X dL_heaviestWitness_6 7 rfl rfl (by decide) (L' := [(2, .ref q9), (0, .ref x), (1, .int (zI k))]) rfl ?_
  refine v_sipush X dL_heaviestWitness_7 10 rfl rfl ?_
  subst hQ; exact m_iret X hr hlk hM dL_heaviestWitness_10 rfl rfl
set_option maxHeartbeats 4000000 in
set_option maxRecDepth 20000 in
theorem w_X9_heaviestWitness_1_t (l : Launch) (hl : l.stackTraces = false) (E : Nat → Nat → Nat) (x : Nat) (co : Nat → Int → Int) (hs : Int) (er : Int) (fa : Int) (ss : Int) (k : Int) (hO : OkC co) (gk : Rg k) (k0 : 0 ≤ k ∧ k < co 0 0) (nk : ¬ (0 < co 6 k)) : MuW l yL_heaviestWitness cL_heaviestWitness 3 (some .int) [(0, 5, 6, 31), (0, 5, 11, 37)] 9 1 6 E [] [.ref x, .int (zI k)] (fun H => PR E x [(x, .inr (11, [.ref (x + 1), .ref (x + 29), .ref (x + 57), .ref (x + 85), .ref (x + 311), .ref (x + 314), .ref (x + 319), .ref (x + 332), .int (zI hs), .int (zI er), .int (zI fa), .int (zI ss)]))] H ∧ PR E (x + 1) (courtW E (x + 1) co) H) (fun rv H => rv = some (.int (zI (-30000)))) := by
  refine MuW.start (own := RL) rfl (by decide +kernel) (Nat.le_of_ble_eq_true rfl) ?_
  intro p e s m below meth cd args Q hQ X hr hlk htab hM hPr
  obtain ⟨h_cm, h_co⟩ := hPr
  refine v_aload_n X dL_heaviestWitness_0 1 rfl 0 rfl ?_
  refine v_iload_n X dL_heaviestWitness_1 2 rfl 1 rfl ?_
  have hht : HT RL "java/util/NoSuchElementException" s [(0, 5, 6, 31), (0, 5, 11, 37)] 2 1 11 := ⟨(0, 5, 11, 37), rfl, rfl, by decide, by decide, xl_L_37, xc_NSE, by
    intro i z hi hz
    rcases (show i = 0 by omega) with rfl
    · cases hz; exact ⟨by decide, _, xl_L_31, hM.C.2.2.2.2.2.2.1 3 2 _ _ (by decide) rfl rfl⟩⟩
  refine v_txC X htab hM (h_cm.1) (x_X9_heaviestWitness_1 l hl E x co hs er fa ss k hO gk k0 nk) kvX9_heaviestWitness kiX9_heaviestWitness kl_L_51 (q0 := 0) rfl rfl (As := [.int (zI k)]) rfl rfl rfl dL_heaviestWitness_2 1 11 hht (k' := 1) (n' := 6) rfl rfl (fun q hq => hq.elim) ⟨h_cm, h_co⟩ (fun q9 H1 lo1 hM hF hpo => ?_)
  replace h_cm := h_cm.kept hF 1 rfl (fun q _ _ h => h.elim)
  replace h_co := h_co.kept hF 28 rfl (fun q _ _ h => h.elim)
  show V p l e (rmL 9 1 6) s m args below meth cd Q 3 H1 lo1 1 6 11 [(0, .ref x), (1, .int (zI k))] [.ref q9]
  refine v_astore_n X dL_heaviestWitness_11 12 rfl rfl (by decide) (L' := [(2, .ref q9), (0, .ref x), (1, .int (zI k))]) rfl ?_
  refine v_sipush X dL_heaviestWitness_12 15 rfl rfl ?_
  subst hQ; exact m_iret X hr hlk hM dL_heaviestWitness_15 rfl rfl
set_option maxHeartbeats 4000000 in
set_option maxRecDepth 20000 in
theorem w_X9_nextToDecide (l : Launch) (hl : l.stackTraces = false) (E : Nat → Nat → Nat) (x : Nat) (co : Nat → Int → Int) (hs : Int) (er : Int) (fa : Int) (ss : Int) (dk : Nat → Int → Int) (hO : OkC co) (k0 : 0 ≤ fhC co (dkG co (dk 1) (co 0 0).toNat) (dkM co (co 0 0).toNat)) (hd_cm_dk : x + 1 ≤ x + 311 ∨ x + 311 + 3 ≤ x) (hd_co_dk : x + 1 + 28 ≤ x + 311 ∨ x + 311 + 3 ≤ x + 1) : MuW l yL_nextToDecide cL_nextToDecide 2 (some .int) [(0, 4, 5, 37)] 9 1 6 E [(x + 311, 3)] [.ref x] (fun H => PR E x [(x, .inr (11, [.ref (x + 1), .ref (x + 29), .ref (x + 57), .ref (x + 85), .ref (x + 311), .ref (x + 314), .ref (x + 319), .ref (x + 332), .int (zI hs), .int (zI er), .int (zI fa), .int (zI ss)]))] H ∧ PR E (x + 1) (courtW E (x + 1) co) H ∧ PR E (x + 311) (docketW E (x + 311) dk) H) (fun rv H => rv = some (.int (zI (fhC co (dkG co (dk 1) (co 0 0).toNat) (dkM co (co 0 0).toNat)))) ∧ PR E (x + 311) (docketW E (x + 311) (updC (updC dk 0 (updZ (dk 0) 1 (dkM co (co 0 0).toNat : Int))) 1 (dkG co (dk 1) (co 0 0).toNat))) H) := by
  refine MuW.start (own := RL) rfl (by decide +kernel) (Nat.le_of_ble_eq_true rfl) ?_
  intro p e s m below meth cd args Q hQ X hr hlk htab hM hPr
  obtain ⟨h_cm, h_co, h_dk⟩ := hPr
  refine v_aload_n X dL_nextToDecide_0 1 rfl 0 rfl ?_
  refine v_muV X hM (h_cm.1) (c_X9_nextToDecide l E x co hs er fa ss dk hO k0 hd_cm_dk hd_co_dk) kvX9_nextToDecide kiX9_nextToDecide kl_L_54 (q0 := 0) rfl rfl (As := []) rfl rfl rfl dL_nextToDecide_1 4 rfl (k' := 0) (n' := 0) rfl rfl (fsI (fun q q1 q2 => (Or.inl (fsH (by omega) (by omega))))) ⟨h_cm, h_co, h_dk⟩ (fun rv H1 lo1 hM hF hpo => ?_)
  obtain ⟨rfl, hw_0⟩ := hpo
  have h_dk : PR E (x + 311) (docketW E (x + 311) (updC (updC dk 0 (updZ (dk 0) 1 (dkM co (co 0 0).toNat : Int))) 1 (dkG co ((dk 1)) (co 0 0).toNat))) H1 := hw_0
  replace h_cm := h_cm.kept hF 1 rfl (fsd (by omega))
  replace h_co := h_co.kept hF 28 rfl (fsd (by omega))
  show V p l e (rmL 9 1 6) s m args below meth cd Q 2 H1 lo1 0 0 4 [(0, .ref x)] [.int (zI (fhC co (dkG co (dk 1) (co 0 0).toNat) (dkM co (co 0 0).toNat)))]
  have hb_2 := hO.b0
  subst hQ; exact m_iret X hr hlk hM dL_nextToDecide_4 rfl ⟨rfl, h_dk⟩
set_option maxHeartbeats 4000000 in
set_option maxRecDepth 20000 in
theorem w_X9_nextToDecide_0_t (l : Launch) (hl : l.stackTraces = false) (E : Nat → Nat → Nat) (x : Nat) (co : Nat → Int → Int) (hs : Int) (er : Int) (fa : Int) (ss : Int) (dk : Nat → Int → Int) (hO : OkC co) (nk : ¬ (0 ≤ fhC co (dkG co (dk 1) (co 0 0).toNat) (dkM co (co 0 0).toNat))) (hd_cm_dk : x + 1 ≤ x + 311 ∨ x + 311 + 3 ≤ x) (hd_co_dk : x + 1 + 28 ≤ x + 311 ∨ x + 311 + 3 ≤ x + 1) : MuW l yL_nextToDecide cL_nextToDecide 2 (some .int) [(0, 4, 5, 37)] 9 1 6 E [(x + 311, 3)] [.ref x] (fun H => PR E x [(x, .inr (11, [.ref (x + 1), .ref (x + 29), .ref (x + 57), .ref (x + 85), .ref (x + 311), .ref (x + 314), .ref (x + 319), .ref (x + 332), .int (zI hs), .int (zI er), .int (zI fa), .int (zI ss)]))] H ∧ PR E (x + 1) (courtW E (x + 1) co) H ∧ PR E (x + 311) (docketW E (x + 311) dk) H) (fun rv H => rv = some (.int (zI (-30000))) ∧ PR E (x + 311) (docketW E (x + 311) (updC (updC dk 0 (updZ (dk 0) 1 (dkM co (co 0 0).toNat : Int))) 1 (dkG co (dk 1) (co 0 0).toNat))) H) := by
  refine MuW.start (own := RL) rfl (by decide +kernel) (Nat.le_of_ble_eq_true rfl) ?_
  intro p e s m below meth cd args Q hQ X hr hlk htab hM hPr
  obtain ⟨h_cm, h_co, h_dk⟩ := hPr
  refine v_aload_n X dL_nextToDecide_0 1 rfl 0 rfl ?_
  have hht : HT RL "java/util/NoSuchElementException" s [(0, 4, 5, 37)] 1 0 5 := ⟨(0, 4, 5, 37), rfl, rfl, by decide, by decide, xl_L_37, xc_NSE, by
    intro i z hi hz
    omega⟩
  refine v_txC X htab hM (h_cm.1) (x_X9_nextToDecide_0 l hl E x co hs er fa ss dk hO nk hd_cm_dk hd_co_dk) kvX9_nextToDecide kiX9_nextToDecide kl_L_54 (q0 := 0) rfl rfl (As := []) rfl rfl rfl dL_nextToDecide_1 0 5 hht (k' := 1) (n' := 6) rfl rfl (fsI (fun q q1 q2 => (Or.inl (fsH (by omega) (by omega))))) ⟨h_cm, h_co, h_dk⟩ (fun q9 H1 lo1 hM hF hpo => ?_)
  have hw_0 := hpo
  have h_dk : PR E (x + 311) (docketW E (x + 311) (updC (updC dk 0 (updZ (dk 0) 1 (dkM co (co 0 0).toNat : Int))) 1 (dkG co ((dk 1)) (co 0 0).toNat))) H1 := hw_0
  replace h_cm := h_cm.kept hF 1 rfl (fsd (by omega))
  replace h_co := h_co.kept hF 28 rfl (fsd (by omega))
  show V p l e (rmL 9 1 6) s m args below meth cd Q 2 H1 lo1 1 6 5 [(0, .ref x)] [.ref q9]
  refine v_astore_n X dL_nextToDecide_5 6 rfl rfl (by decide) (L' := [(1, .ref q9), (0, .ref x)]) rfl ?_
  refine v_sipush X dL_nextToDecide_6 9 rfl rfl ?_
  subst hQ; exact m_iret X hr hlk hM dL_nextToDecide_9 rfl ⟨rfl, h_dk⟩
set_option maxHeartbeats 4000000 in
set_option maxRecDepth 20000 in
theorem w_X9_firmAnswersToGuilty (l : Launch) (hl : l.stackTraces = false) (E : Nat → Nat → Nat) (x : Nat) (co : Nat → Int → Int) (hs : Int) (er : Int) (fa : Int) (ss : Int) (k : Int) (w : Int) (hO : OkC co) (gk : Rg k) (gw : Rg w) (k0 : 0 ≤ k ∧ k < co 0 0) (k1 : 0 ≤ w ∧ w < co 0 1) (k2 : 0 < co 9 (k * 8 + w)) (k3 : 0 ≤ faC co k w) : MuW l yL_firmAnswersToGuilty cL_firmAnswersToGuilty 4 (some .int) [(0, 6, 7, 31), (0, 6, 12, 37)] 9 1 6 E [] [.ref x, .int (zI k), .int (zI w)] (fun H => PR E x [(x, .inr (11, [.ref (x + 1), .ref (x + 29), .ref (x + 57), .ref (x + 85), .ref (x + 311), .ref (x + 314), .ref (x + 319), .ref (x + 332), .int (zI hs), .int (zI er), .int (zI fa), .int (zI ss)]))] H ∧ PR E (x + 1) (courtW E (x + 1) co) H) (fun rv H => rv = some (.int (zI (faC co k w)))) := by
  refine MuW.start (own := RL) rfl (by decide +kernel) (Nat.le_of_ble_eq_true rfl) ?_
  intro p e s m below meth cd args Q hQ X hr hlk htab hM hPr
  obtain ⟨h_cm, h_co⟩ := hPr
  refine v_aload_n X dL_firmAnswersToGuilty_0 1 rfl 0 rfl ?_
  refine v_iload_n X dL_firmAnswersToGuilty_1 2 rfl 1 rfl ?_
  refine v_iload_n X dL_firmAnswersToGuilty_2 3 rfl 2 rfl ?_
  refine v_rdV X hM.C (PW.app h_cm.1 h_co.1) (c_X9_firmAnswersToGuilty l E x co hs er fa ss k w hO gk gw k0 k1 k2 k3) kvX9_firmAnswersToGuilty kiX9_firmAnswersToGuilty kl_L_58 rfl rfl (As := [.int (zI k), .int (zI w)]) rfl rfl rfl dL_firmAnswersToGuilty_3 6 rfl ?_
  show V p l e (rmL 9 1 6) s m args below meth cd Q 4 s.heap [] 0 0 6 [(0, .ref x), (1, .int (zI k)), (2, .int (zI w))] [.int (zI (faC co k w))]
  subst hQ; exact m_iret X hr hlk hM dL_firmAnswersToGuilty_6 rfl rfl
set_option maxHeartbeats 4000000 in
set_option maxRecDepth 20000 in
theorem w_X9_firmAnswersToGuilty_0_t (l : Launch) (hl : l.stackTraces = false) (E : Nat → Nat → Nat) (x : Nat) (co : Nat → Int → Int) (hs : Int) (er : Int) (fa : Int) (ss : Int) (k : Int) (w : Int) (hO : OkC co) (gk : Rg k) (gw : Rg w) (nk : ¬ (0 ≤ k ∧ k < co 0 0)) : MuW l yL_firmAnswersToGuilty cL_firmAnswersToGuilty 4 (some .int) [(0, 6, 7, 31), (0, 6, 12, 37)] 9 1 6 E [] [.ref x, .int (zI k), .int (zI w)] (fun H => PR E x [(x, .inr (11, [.ref (x + 1), .ref (x + 29), .ref (x + 57), .ref (x + 85), .ref (x + 311), .ref (x + 314), .ref (x + 319), .ref (x + 332), .int (zI hs), .int (zI er), .int (zI fa), .int (zI ss)]))] H ∧ PR E (x + 1) (courtW E (x + 1) co) H) (fun rv H => rv = some (.int (zI (-25000)))) := by
  refine MuW.start (own := RL) rfl (by decide +kernel) (Nat.le_of_ble_eq_true rfl) ?_
  intro p e s m below meth cd args Q hQ X hr hlk htab hM hPr
  obtain ⟨h_cm, h_co⟩ := hPr
  refine v_aload_n X dL_firmAnswersToGuilty_0 1 rfl 0 rfl ?_
  refine v_iload_n X dL_firmAnswersToGuilty_1 2 rfl 1 rfl ?_
  refine v_iload_n X dL_firmAnswersToGuilty_2 3 rfl 2 rfl ?_
  have hht : HT RL "java/lang/IndexOutOfBoundsException" s [(0, 6, 7, 31), (0, 6, 12, 37)] 3 0 7 := ⟨(0, 6, 7, 31), rfl, rfl, by decide, by decide, xl_L_31, xc_IOB, by
    intro i z hi hz
    omega⟩
  refine v_txC X htab hM (h_cm.1) (x_X9_firmAnswersToGuilty_0 l hl E x co hs er fa ss k w hO gk gw nk) kvX9_firmAnswersToGuilty kiX9_firmAnswersToGuilty kl_L_58 (q0 := 0) rfl rfl (As := [.int (zI k), .int (zI w)]) rfl rfl rfl dL_firmAnswersToGuilty_3 0 7 hht (k' := 1) (n' := 6) rfl rfl (fun q hq => hq.elim) ⟨h_cm, h_co⟩ (fun q9 H1 lo1 hM hF hpo => ?_)
  replace h_cm := h_cm.kept hF 1 rfl (fun q _ _ h => h.elim)
  replace h_co := h_co.kept hF 28 rfl (fun q _ _ h => h.elim)
  show V p l e (rmL 9 1 6) s m args below meth cd Q 4 H1 lo1 1 6 7 [(0, .ref x), (1, .int (zI k)), (2, .int (zI w))] [.ref q9]
  refine v_astore_n X dL_firmAnswersToGuilty_7 8 rfl rfl (by decide) (L' := [(3, .ref q9), (0, .ref x), (1, .int (zI k)), (2, .int (zI w))]) rfl ?_
  refine v_sipush X dL_firmAnswersToGuilty_8 11 rfl rfl ?_
  subst hQ; exact m_iret X hr hlk hM dL_firmAnswersToGuilty_11 rfl rfl
set_option maxHeartbeats 4000000 in
set_option maxRecDepth 20000 in
theorem w_X9_firmAnswersToGuilty_1_t (l : Launch) (hl : l.stackTraces = false) (E : Nat → Nat → Nat) (x : Nat) (co : Nat → Int → Int) (hs : Int) (er : Int) (fa : Int) (ss : Int) (k : Int) (w : Int) (hO : OkC co) (gk : Rg k) (gw : Rg w) (k0 : 0 ≤ k ∧ k < co 0 0) (nk : ¬ (0 ≤ w ∧ w < co 0 1)) : MuW l yL_firmAnswersToGuilty cL_firmAnswersToGuilty 4 (some .int) [(0, 6, 7, 31), (0, 6, 12, 37)] 9 1 6 E [] [.ref x, .int (zI k), .int (zI w)] (fun H => PR E x [(x, .inr (11, [.ref (x + 1), .ref (x + 29), .ref (x + 57), .ref (x + 85), .ref (x + 311), .ref (x + 314), .ref (x + 319), .ref (x + 332), .int (zI hs), .int (zI er), .int (zI fa), .int (zI ss)]))] H ∧ PR E (x + 1) (courtW E (x + 1) co) H) (fun rv H => rv = some (.int (zI (-25000)))) := by
  refine MuW.start (own := RL) rfl (by decide +kernel) (Nat.le_of_ble_eq_true rfl) ?_
  intro p e s m below meth cd args Q hQ X hr hlk htab hM hPr
  obtain ⟨h_cm, h_co⟩ := hPr
  refine v_aload_n X dL_firmAnswersToGuilty_0 1 rfl 0 rfl ?_
  refine v_iload_n X dL_firmAnswersToGuilty_1 2 rfl 1 rfl ?_
  refine v_iload_n X dL_firmAnswersToGuilty_2 3 rfl 2 rfl ?_
  have hht : HT RL "java/lang/IndexOutOfBoundsException" s [(0, 6, 7, 31), (0, 6, 12, 37)] 3 0 7 := ⟨(0, 6, 7, 31), rfl, rfl, by decide, by decide, xl_L_31, xc_IOB, by
    intro i z hi hz
    omega⟩
  refine v_txC X htab hM (h_cm.1) (x_X9_firmAnswersToGuilty_1 l hl E x co hs er fa ss k w hO gk gw k0 nk) kvX9_firmAnswersToGuilty kiX9_firmAnswersToGuilty kl_L_58 (q0 := 0) rfl rfl (As := [.int (zI k), .int (zI w)]) rfl rfl rfl dL_firmAnswersToGuilty_3 0 7 hht (k' := 1) (n' := 6) rfl rfl (fun q hq => hq.elim) ⟨h_cm, h_co⟩ (fun q9 H1 lo1 hM hF hpo => ?_)
  replace h_cm := h_cm.kept hF 1 rfl (fun q _ _ h => h.elim)
  replace h_co := h_co.kept hF 28 rfl (fun q _ _ h => h.elim)
  show V p l e (rmL 9 1 6) s m args below meth cd Q 4 H1 lo1 1 6 7 [(0, .ref x), (1, .int (zI k)), (2, .int (zI w))] [.ref q9]
  refine v_astore_n X dL_firmAnswersToGuilty_7 8 rfl rfl (by decide) (L' := [(3, .ref q9), (0, .ref x), (1, .int (zI k)), (2, .int (zI w))]) rfl ?_
  refine v_sipush X dL_firmAnswersToGuilty_8 11 rfl rfl ?_
  subst hQ; exact m_iret X hr hlk hM dL_firmAnswersToGuilty_11 rfl rfl
set_option maxHeartbeats 4000000 in
set_option maxRecDepth 20000 in
theorem w_X9_firmAnswersToGuilty_2_t (l : Launch) (hl : l.stackTraces = false) (E : Nat → Nat → Nat) (x : Nat) (co : Nat → Int → Int) (hs : Int) (er : Int) (fa : Int) (ss : Int) (k : Int) (w : Int) (hO : OkC co) (gk : Rg k) (gw : Rg w) (k0 : 0 ≤ k ∧ k < co 0 0) (k1 : 0 ≤ w ∧ w < co 0 1) (nk : ¬ (0 < co 9 (k * 8 + w))) : MuW l yL_firmAnswersToGuilty cL_firmAnswersToGuilty 4 (some .int) [(0, 6, 7, 31), (0, 6, 12, 37)] 9 1 6 E [] [.ref x, .int (zI k), .int (zI w)] (fun H => PR E x [(x, .inr (11, [.ref (x + 1), .ref (x + 29), .ref (x + 57), .ref (x + 85), .ref (x + 311), .ref (x + 314), .ref (x + 319), .ref (x + 332), .int (zI hs), .int (zI er), .int (zI fa), .int (zI ss)]))] H ∧ PR E (x + 1) (courtW E (x + 1) co) H) (fun rv H => rv = some (.int (zI (-30000)))) := by
  refine MuW.start (own := RL) rfl (by decide +kernel) (Nat.le_of_ble_eq_true rfl) ?_
  intro p e s m below meth cd args Q hQ X hr hlk htab hM hPr
  obtain ⟨h_cm, h_co⟩ := hPr
  refine v_aload_n X dL_firmAnswersToGuilty_0 1 rfl 0 rfl ?_
  refine v_iload_n X dL_firmAnswersToGuilty_1 2 rfl 1 rfl ?_
  refine v_iload_n X dL_firmAnswersToGuilty_2 3 rfl 2 rfl ?_
  have hht : HT RL "java/util/NoSuchElementException" s [(0, 6, 7, 31), (0, 6, 12, 37)] 3 1 12 := ⟨(0, 6, 12, 37), rfl, rfl, by decide, by decide, xl_L_37, xc_NSE, by
    intro i z hi hz
    rcases (show i = 0 by omega) with rfl
    · cases hz; exact ⟨by decide, _, xl_L_31, hM.C.2.2.2.2.2.2.1 3 2 _ _ (by decide) rfl rfl⟩⟩
  refine v_txC X htab hM (h_cm.1) (x_X9_firmAnswersToGuilty_2 l hl E x co hs er fa ss k w hO gk gw k0 k1 nk) kvX9_firmAnswersToGuilty kiX9_firmAnswersToGuilty kl_L_58 (q0 := 0) rfl rfl (As := [.int (zI k), .int (zI w)]) rfl rfl rfl dL_firmAnswersToGuilty_3 1 12 hht (k' := 1) (n' := 6) rfl rfl (fun q hq => hq.elim) ⟨h_cm, h_co⟩ (fun q9 H1 lo1 hM hF hpo => ?_)
  replace h_cm := h_cm.kept hF 1 rfl (fun q _ _ h => h.elim)
  replace h_co := h_co.kept hF 28 rfl (fun q _ _ h => h.elim)
  show V p l e (rmL 9 1 6) s m args below meth cd Q 4 H1 lo1 1 6 12 [(0, .ref x), (1, .int (zI k)), (2, .int (zI w))] [.ref q9]
  refine v_astore_n X dL_firmAnswersToGuilty_12 13 rfl rfl (by decide) (L' := [(3, .ref q9), (0, .ref x), (1, .int (zI k)), (2, .int (zI w))]) rfl ?_
  refine v_sipush X dL_firmAnswersToGuilty_13 16 rfl rfl ?_
  subst hQ; exact m_iret X hr hlk hM dL_firmAnswersToGuilty_16 rfl rfl
set_option maxHeartbeats 4000000 in
set_option maxRecDepth 20000 in
theorem w_X9_firmAnswersToGuilty_3_t (l : Launch) (hl : l.stackTraces = false) (E : Nat → Nat → Nat) (x : Nat) (co : Nat → Int → Int) (hs : Int) (er : Int) (fa : Int) (ss : Int) (k : Int) (w : Int) (hO : OkC co) (gk : Rg k) (gw : Rg w) (k0 : 0 ≤ k ∧ k < co 0 0) (k1 : 0 ≤ w ∧ w < co 0 1) (k2 : 0 < co 9 (k * 8 + w)) (nk : ¬ (0 ≤ faC co k w)) : MuW l yL_firmAnswersToGuilty cL_firmAnswersToGuilty 4 (some .int) [(0, 6, 7, 31), (0, 6, 12, 37)] 9 1 6 E [] [.ref x, .int (zI k), .int (zI w)] (fun H => PR E x [(x, .inr (11, [.ref (x + 1), .ref (x + 29), .ref (x + 57), .ref (x + 85), .ref (x + 311), .ref (x + 314), .ref (x + 319), .ref (x + 332), .int (zI hs), .int (zI er), .int (zI fa), .int (zI ss)]))] H ∧ PR E (x + 1) (courtW E (x + 1) co) H) (fun rv H => rv = some (.int (zI (-30000)))) := by
  refine MuW.start (own := RL) rfl (by decide +kernel) (Nat.le_of_ble_eq_true rfl) ?_
  intro p e s m below meth cd args Q hQ X hr hlk htab hM hPr
  obtain ⟨h_cm, h_co⟩ := hPr
  refine v_aload_n X dL_firmAnswersToGuilty_0 1 rfl 0 rfl ?_
  refine v_iload_n X dL_firmAnswersToGuilty_1 2 rfl 1 rfl ?_
  refine v_iload_n X dL_firmAnswersToGuilty_2 3 rfl 2 rfl ?_
  have hht : HT RL "java/util/NoSuchElementException" s [(0, 6, 7, 31), (0, 6, 12, 37)] 3 1 12 := ⟨(0, 6, 12, 37), rfl, rfl, by decide, by decide, xl_L_37, xc_NSE, by
    intro i z hi hz
    rcases (show i = 0 by omega) with rfl
    · cases hz; exact ⟨by decide, _, xl_L_31, hM.C.2.2.2.2.2.2.1 3 2 _ _ (by decide) rfl rfl⟩⟩
  refine v_txC X htab hM (h_cm.1) (x_X9_firmAnswersToGuilty_3 l hl E x co hs er fa ss k w hO gk gw k0 k1 k2 nk) kvX9_firmAnswersToGuilty kiX9_firmAnswersToGuilty kl_L_58 (q0 := 0) rfl rfl (As := [.int (zI k), .int (zI w)]) rfl rfl rfl dL_firmAnswersToGuilty_3 1 12 hht (k' := 1) (n' := 6) rfl rfl (fun q hq => hq.elim) ⟨h_cm, h_co⟩ (fun q9 H1 lo1 hM hF hpo => ?_)
  replace h_cm := h_cm.kept hF 1 rfl (fun q _ _ h => h.elim)
  replace h_co := h_co.kept hF 28 rfl (fun q _ _ h => h.elim)
  show V p l e (rmL 9 1 6) s m args below meth cd Q 4 H1 lo1 1 6 12 [(0, .ref x), (1, .int (zI k)), (2, .int (zI w))] [.ref q9]
  refine v_astore_n X dL_firmAnswersToGuilty_12 13 rfl rfl (by decide) (L' := [(3, .ref q9), (0, .ref x), (1, .int (zI k)), (2, .int (zI w))]) rfl ?_
  refine v_sipush X dL_firmAnswersToGuilty_13 16 rfl rfl ?_
  subst hQ; exact m_iret X hr hlk hM dL_firmAnswersToGuilty_16 rfl rfl
set_option maxHeartbeats 4000000 in
set_option maxRecDepth 20000 in
theorem w_X9_docketAt (l : Launch) (hl : l.stackTraces = false) (E : Nat → Nat → Nat) (x : Nat) (co : Nat → Int → Int) (hs : Int) (er : Int) (fa : Int) (ss : Int) (q : Int) (dk : Nat → Int → Int) (hO : OkC co) (gq : Rg q) (k0 : 0 ≤ q ∧ q < (dkM co (co 0 0).toNat : Int)) (hd_cm_dk : x + 1 ≤ x + 311 ∨ x + 311 + 3 ≤ x) (hd_co_dk : x + 1 + 28 ≤ x + 311 ∨ x + 311 + 3 ≤ x + 1) : MuW l yL_docketAt cL_docketAt 3 (some .int) [(0, 5, 6, 37)] 9 1 6 E [(x + 311, 3)] [.ref x, .int (zI q)] (fun H => PR E x [(x, .inr (11, [.ref (x + 1), .ref (x + 29), .ref (x + 57), .ref (x + 85), .ref (x + 311), .ref (x + 314), .ref (x + 319), .ref (x + 332), .int (zI hs), .int (zI er), .int (zI fa), .int (zI ss)]))] H ∧ PR E (x + 1) (courtW E (x + 1) co) H ∧ PR E (x + 311) (docketW E (x + 311) dk) H) (fun rv H => rv = some (.int (zI (dkG co (dk 1) (co 0 0).toNat q))) ∧ PR E (x + 311) (docketW E (x + 311) (updC (updC dk 0 (updZ (dk 0) 1 (dkM co (co 0 0).toNat : Int))) 1 (dkG co (dk 1) (co 0 0).toNat))) H) := by
  refine MuW.start (own := RL) rfl (by decide +kernel) (Nat.le_of_ble_eq_true rfl) ?_
  intro p e s m below meth cd args Q hQ X hr hlk htab hM hPr
  obtain ⟨h_cm, h_co, h_dk⟩ := hPr
  refine v_aload_n X dL_docketAt_0 1 rfl 0 rfl ?_
  refine v_iload_n X dL_docketAt_1 2 rfl 1 rfl ?_
  refine v_muV X hM (h_cm.1) (c_X9_docketAt l E x co hs er fa ss q dk hO gq k0 hd_cm_dk hd_co_dk) kvX9_docketAt kiX9_docketAt kl_L_61 (q0 := 0) rfl rfl (As := [.int (zI q)]) rfl rfl rfl dL_docketAt_2 5 rfl (k' := 0) (n' := 0) rfl rfl (fsI (fun q q1 q2 => (Or.inl (fsH (by omega) (by omega))))) ⟨h_cm, h_co, h_dk⟩ (fun rv H1 lo1 hM hF hpo => ?_)
  obtain ⟨rfl, hw_0⟩ := hpo
  have h_dk : PR E (x + 311) (docketW E (x + 311) (updC (updC dk 0 (updZ (dk 0) 1 (dkM co (co 0 0).toNat : Int))) 1 (dkG co ((dk 1)) (co 0 0).toNat))) H1 := hw_0
  replace h_cm := h_cm.kept hF 1 rfl (fsd (by omega))
  replace h_co := h_co.kept hF 28 rfl (fsd (by omega))
  show V p l e (rmL 9 1 6) s m args below meth cd Q 3 H1 lo1 0 0 5 [(0, .ref x), (1, .int (zI q))] [.int (zI (dkG co (dk 1) (co 0 0).toNat q))]
  have hb_2 := hO.b0
  subst hQ; exact m_iret X hr hlk hM dL_docketAt_5 rfl ⟨rfl, h_dk⟩
set_option maxHeartbeats 4000000 in
set_option maxRecDepth 20000 in
theorem w_X9_docketAt_0_t (l : Launch) (hl : l.stackTraces = false) (E : Nat → Nat → Nat) (x : Nat) (co : Nat → Int → Int) (hs : Int) (er : Int) (fa : Int) (ss : Int) (q : Int) (dk : Nat → Int → Int) (hO : OkC co) (gq : Rg q) (nk : ¬ (0 ≤ q ∧ q < (dkM co (co 0 0).toNat : Int))) (hd_cm_dk : x + 1 ≤ x + 311 ∨ x + 311 + 3 ≤ x) (hd_co_dk : x + 1 + 28 ≤ x + 311 ∨ x + 311 + 3 ≤ x + 1) : MuW l yL_docketAt cL_docketAt 3 (some .int) [(0, 5, 6, 37)] 9 1 6 E [(x + 311, 3)] [.ref x, .int (zI q)] (fun H => PR E x [(x, .inr (11, [.ref (x + 1), .ref (x + 29), .ref (x + 57), .ref (x + 85), .ref (x + 311), .ref (x + 314), .ref (x + 319), .ref (x + 332), .int (zI hs), .int (zI er), .int (zI fa), .int (zI ss)]))] H ∧ PR E (x + 1) (courtW E (x + 1) co) H ∧ PR E (x + 311) (docketW E (x + 311) dk) H) (fun rv H => rv = some (.int (zI (-30000))) ∧ PR E (x + 311) (docketW E (x + 311) (updC (updC dk 0 (updZ (dk 0) 1 (dkM co (co 0 0).toNat : Int))) 1 (dkG co (dk 1) (co 0 0).toNat))) H) := by
  refine MuW.start (own := RL) rfl (by decide +kernel) (Nat.le_of_ble_eq_true rfl) ?_
  intro p e s m below meth cd args Q hQ X hr hlk htab hM hPr
  obtain ⟨h_cm, h_co, h_dk⟩ := hPr
  refine v_aload_n X dL_docketAt_0 1 rfl 0 rfl ?_
  refine v_iload_n X dL_docketAt_1 2 rfl 1 rfl ?_
  have hht : HT RL "java/util/NoSuchElementException" s [(0, 5, 6, 37)] 2 0 6 := ⟨(0, 5, 6, 37), rfl, rfl, by decide, by decide, xl_L_37, xc_NSE, by
    intro i z hi hz
    omega⟩
  refine v_txC X htab hM (h_cm.1) (x_X9_docketAt_0 l hl E x co hs er fa ss q dk hO gq nk hd_cm_dk hd_co_dk) kvX9_docketAt kiX9_docketAt kl_L_61 (q0 := 0) rfl rfl (As := [.int (zI q)]) rfl rfl rfl dL_docketAt_2 0 6 hht (k' := 1) (n' := 6) rfl rfl (fsI (fun q q1 q2 => (Or.inl (fsH (by omega) (by omega))))) ⟨h_cm, h_co, h_dk⟩ (fun q9 H1 lo1 hM hF hpo => ?_)
  have hw_0 := hpo
  have h_dk : PR E (x + 311) (docketW E (x + 311) (updC (updC dk 0 (updZ (dk 0) 1 (dkM co (co 0 0).toNat : Int))) 1 (dkG co ((dk 1)) (co 0 0).toNat))) H1 := hw_0
  replace h_cm := h_cm.kept hF 1 rfl (fsd (by omega))
  replace h_co := h_co.kept hF 28 rfl (fsd (by omega))
  show V p l e (rmL 9 1 6) s m args below meth cd Q 3 H1 lo1 1 6 6 [(0, .ref x), (1, .int (zI q))] [.ref q9]
  refine v_astore_n X dL_docketAt_6 7 rfl rfl (by decide) (L' := [(2, .ref q9), (0, .ref x), (1, .int (zI q))]) rfl ?_
  refine v_sipush X dL_docketAt_7 10 rfl rfl ?_
  subst hQ; exact m_iret X hr hlk hM dL_docketAt_10 rfl ⟨rfl, h_dk⟩
set_option maxHeartbeats 4000000 in
set_option maxRecDepth 20000 in
theorem w_X9_docketPosition (l : Launch) (hl : l.stackTraces = false) (E : Nat → Nat → Nat) (x : Nat) (co : Nat → Int → Int) (hs : Int) (er : Int) (fa : Int) (ss : Int) (k : Int) (hO : OkC co) (gk : Rg k) (k0 : 0 ≤ k ∧ k < co 0 0) (k1 : co 3 k = 0) : MuW l yL_docketPosition cL_docketPosition 3 (some .int) [(0, 5, 6, 31), (0, 5, 11, 21)] 9 1 6 E [] [.ref x, .int (zI k)] (fun H => PR E x [(x, .inr (11, [.ref (x + 1), .ref (x + 29), .ref (x + 57), .ref (x + 85), .ref (x + 311), .ref (x + 314), .ref (x + 319), .ref (x + 332), .int (zI hs), .int (zI er), .int (zI fa), .int (zI ss)]))] H ∧ PR E (x + 1) (courtW E (x + 1) co) H) (fun rv H => (rv = some (.int (zI (sumZ (fun j => bz (co 3 j = 0 ∧ cbC co j k)) (co 0 0).toNat))))) := by
  refine MuW.start (own := RL) rfl (by decide +kernel) (Nat.le_of_ble_eq_true rfl) ?_
  intro p e s m below meth cd args Q hQ X hr hlk htab hM hPr
  obtain ⟨h_cm, h_co⟩ := hPr
  refine v_aload_n X dL_docketPosition_0 1 rfl 0 rfl ?_
  refine v_iload_n X dL_docketPosition_1 2 rfl 1 rfl ?_
  refine v_rdV X hM.C (PW.app h_cm.1 h_co.1) (c_X9_docketPosition l E x co hs er fa ss k hO gk k0 k1) kvX9_docketPosition kiX9_docketPosition kl_L_64 rfl rfl (As := [.int (zI k)]) rfl rfl rfl dL_docketPosition_2 5 rfl ?_
  show V p l e (rmL 9 1 6) s m args below meth cd Q 3 s.heap [] 0 0 5 [(0, .ref x), (1, .int (zI k))] [.int (zI (sumZ (fun j => bz (co 3 j = 0 ∧ cbC co j k)) (co 0 0).toNat))]
  have hb_1 := hO.b0
  subst hQ; exact m_iret X hr hlk hM dL_docketPosition_5 rfl rfl
set_option maxHeartbeats 4000000 in
set_option maxRecDepth 20000 in
theorem w_X9_docketPosition_0_t (l : Launch) (hl : l.stackTraces = false) (E : Nat → Nat → Nat) (x : Nat) (co : Nat → Int → Int) (hs : Int) (er : Int) (fa : Int) (ss : Int) (k : Int) (hO : OkC co) (gk : Rg k) (nk : ¬ (0 ≤ k ∧ k < co 0 0)) : MuW l yL_docketPosition cL_docketPosition 3 (some .int) [(0, 5, 6, 31), (0, 5, 11, 21)] 9 1 6 E [] [.ref x, .int (zI k)] (fun H => PR E x [(x, .inr (11, [.ref (x + 1), .ref (x + 29), .ref (x + 57), .ref (x + 85), .ref (x + 311), .ref (x + 314), .ref (x + 319), .ref (x + 332), .int (zI hs), .int (zI er), .int (zI fa), .int (zI ss)]))] H ∧ PR E (x + 1) (courtW E (x + 1) co) H) (fun rv H => rv = some (.int (zI (-25000)))) := by
  refine MuW.start (own := RL) rfl (by decide +kernel) (Nat.le_of_ble_eq_true rfl) ?_
  intro p e s m below meth cd args Q hQ X hr hlk htab hM hPr
  obtain ⟨h_cm, h_co⟩ := hPr
  refine v_aload_n X dL_docketPosition_0 1 rfl 0 rfl ?_
  refine v_iload_n X dL_docketPosition_1 2 rfl 1 rfl ?_
  have hht : HT RL "java/lang/IndexOutOfBoundsException" s [(0, 5, 6, 31), (0, 5, 11, 21)] 2 0 6 := ⟨(0, 5, 6, 31), rfl, rfl, by decide, by decide, xl_L_31, xc_IOB, by
    intro i z hi hz
    omega⟩
  refine v_txC X htab hM (h_cm.1) (x_X9_docketPosition_0 l hl E x co hs er fa ss k hO gk nk) kvX9_docketPosition kiX9_docketPosition kl_L_64 (q0 := 0) rfl rfl (As := [.int (zI k)]) rfl rfl rfl dL_docketPosition_2 0 6 hht (k' := 1) (n' := 6) rfl rfl (fun q hq => hq.elim) ⟨h_cm, h_co⟩ (fun q9 H1 lo1 hM hF hpo => ?_)
  replace h_cm := h_cm.kept hF 1 rfl (fun q _ _ h => h.elim)
  replace h_co := h_co.kept hF 28 rfl (fun q _ _ h => h.elim)
  show V p l e (rmL 9 1 6) s m args below meth cd Q 3 H1 lo1 1 6 6 [(0, .ref x), (1, .int (zI k))] [.ref q9]
  refine v_astore_n X dL_docketPosition_6 7 rfl rfl (by decide) (L' := [(2, .ref q9), (0, .ref x), (1, .int (zI k))]) rfl ?_
  refine v_sipush X dL_docketPosition_7 10 rfl rfl ?_
  subst hQ; exact m_iret X hr hlk hM dL_docketPosition_10 rfl rfl
set_option maxHeartbeats 4000000 in
set_option maxRecDepth 20000 in
theorem w_X9_docketPosition_1_t (l : Launch) (hl : l.stackTraces = false) (E : Nat → Nat → Nat) (x : Nat) (co : Nat → Int → Int) (hs : Int) (er : Int) (fa : Int) (ss : Int) (k : Int) (hO : OkC co) (gk : Rg k) (k0 : 0 ≤ k ∧ k < co 0 0) (nk : ¬ (co 3 k = 0)) : MuW l yL_docketPosition cL_docketPosition 3 (some .int) [(0, 5, 6, 31), (0, 5, 11, 21)] 9 1 6 E [] [.ref x, .int (zI k)] (fun H => PR E x [(x, .inr (11, [.ref (x + 1), .ref (x + 29), .ref (x + 57), .ref (x + 85), .ref (x + 311), .ref (x + 314), .ref (x + 319), .ref (x + 332), .int (zI hs), .int (zI er), .int (zI fa), .int (zI ss)]))] H ∧ PR E (x + 1) (courtW E (x + 1) co) H) (fun rv H => rv = some (.int (zI (-10000)))) := by
  refine MuW.start (own := RL) rfl (by decide +kernel) (Nat.le_of_ble_eq_true rfl) ?_
  intro p e s m below meth cd args Q hQ X hr hlk htab hM hPr
  obtain ⟨h_cm, h_co⟩ := hPr
  refine v_aload_n X dL_docketPosition_0 1 rfl 0 rfl ?_
  refine v_iload_n X dL_docketPosition_1 2 rfl 1 rfl ?_
  have hht : HT RL "java/lang/IllegalStateException" s [(0, 5, 6, 31), (0, 5, 11, 21)] 2 1 11 := ⟨(0, 5, 11, 21), rfl, rfl, by decide, by decide, xl_L_21, xc_ISE, by
    intro i z hi hz
    rcases (show i = 0 by omega) with rfl
    · cases hz; exact ⟨by decide, _, xl_L_31, hM.C.2.2.2.2.2.2.1 1 2 _ _ (by decide) rfl rfl⟩⟩
  refine v_txC X htab hM (h_cm.1) (x_X9_docketPosition_1 l hl E x co hs er fa ss k hO gk k0 nk) kvX9_docketPosition kiX9_docketPosition kl_L_64 (q0 := 0) rfl rfl (As := [.int (zI k)]) rfl rfl rfl dL_docketPosition_2 1 11 hht (k' := 1) (n' := 6) rfl rfl (fun q hq => hq.elim) ⟨h_cm, h_co⟩ (fun q9 H1 lo1 hM hF hpo => ?_)
  replace h_cm := h_cm.kept hF 1 rfl (fun q _ _ h => h.elim)
  replace h_co := h_co.kept hF 28 rfl (fun q _ _ h => h.elim)
  show V p l e (rmL 9 1 6) s m args below meth cd Q 3 H1 lo1 1 6 11 [(0, .ref x), (1, .int (zI k))] [.ref q9]
  refine v_astore_n X dL_docketPosition_11 12 rfl rfl (by decide) (L' := [(2, .ref q9), (0, .ref x), (1, .int (zI k))]) rfl ?_
  refine v_sipush X dL_docketPosition_12 15 rfl rfl ?_
  subst hQ; exact m_iret X hr hlk hM dL_docketPosition_15 rfl rfl
set_option maxHeartbeats 4000000 in
set_option maxRecDepth 20000 in
theorem w_X9_isGuilty (l : Launch) (hl : l.stackTraces = false) (E : Nat → Nat → Nat) (x : Nat) (co : Nat → Int → Int) (hs : Int) (er : Int) (fa : Int) (ss : Int) (k : Int) (hO : OkC co) (gk : Rg k) (k0 : 0 ≤ k ∧ k < co 0 0) (k1 : ¬ co 3 k = 0) : MuW l yL_verdict cL_verdict 3 (some .int) [(0, 13, 14, 21)] 9 1 6 E [] [.ref x, .int (zI k)] (fun H => PR E x [(x, .inr (11, [.ref (x + 1), .ref (x + 29), .ref (x + 57), .ref (x + 85), .ref (x + 311), .ref (x + 314), .ref (x + 319), .ref (x + 332), .int (zI hs), .int (zI er), .int (zI fa), .int (zI ss)]))] H ∧ PR E (x + 1) (courtW E (x + 1) co) H) (fun rv H => rv = some (.int (zI (bz (¬ co 4 k = 0))))) := by
  refine MuW.start (own := RL) rfl (by decide +kernel) (Nat.le_of_ble_eq_true rfl) ?_
  intro p e s m below meth cd args Q hQ X hr hlk htab hM hPr
  obtain ⟨h_cm, h_co⟩ := hPr
  refine v_aload_n X dL_verdict_0 1 rfl 0 rfl ?_
  refine v_iload_n X dL_verdict_1 2 rfl 1 rfl ?_
  refine v_rdV X hM.C (PW.app h_cm.1 h_co.1) (c_X9_isGuilty l E x co hs er fa ss k hO gk k0 k1) kvX9_isGuilty kiX9_isGuilty kl_L_71 rfl rfl (As := [.int (zI k)]) rfl rfl rfl dL_verdict_2 5 rfl ?_
  show V p l e (rmL 9 1 6) s m args below meth cd Q 3 s.heap [] 0 0 5 [(0, .ref x), (1, .int (zI k))] [.int (zI (bz (¬ co 4 k = 0)))]
  refine v_bif_eq X dL_verdict_5 8 12 rfl (by decide) (fun c_1 => ?_) (fun c_1 => ?_)
  · skip
    refine v_iconst X dL_verdict_12 13 rfl ?_
    subst hQ; exact m_iret X hr hlk hM dL_verdict_13 rfl (sv (bz_f (by assumption)))
  · skip
    refine v_iconst X dL_verdict_8 9 rfl ?_
    refine v_goto X dL_verdict_9 13 (by decide) ?_
    subst hQ; exact m_iret X hr hlk hM dL_verdict_13 rfl (sv (bz_t (by assumption)))
set_option maxHeartbeats 4000000 in
set_option maxRecDepth 20000 in
theorem w_X9_isGuilty_1_t (l : Launch) (hl : l.stackTraces = false) (E : Nat → Nat → Nat) (x : Nat) (co : Nat → Int → Int) (hs : Int) (er : Int) (fa : Int) (ss : Int) (k : Int) (hO : OkC co) (gk : Rg k) (k0 : 0 ≤ k ∧ k < co 0 0) (nk : ¬ (¬ co 3 k = 0)) : MuW l yL_verdict cL_verdict 3 (some .int) [(0, 13, 14, 21)] 9 1 6 E [] [.ref x, .int (zI k)] (fun H => PR E x [(x, .inr (11, [.ref (x + 1), .ref (x + 29), .ref (x + 57), .ref (x + 85), .ref (x + 311), .ref (x + 314), .ref (x + 319), .ref (x + 332), .int (zI hs), .int (zI er), .int (zI fa), .int (zI ss)]))] H ∧ PR E (x + 1) (courtW E (x + 1) co) H) (fun rv H => rv = some (.int (zI (-10000)))) := by
  refine MuW.start (own := RL) rfl (by decide +kernel) (Nat.le_of_ble_eq_true rfl) ?_
  intro p e s m below meth cd args Q hQ X hr hlk htab hM hPr
  obtain ⟨h_cm, h_co⟩ := hPr
  refine v_aload_n X dL_verdict_0 1 rfl 0 rfl ?_
  refine v_iload_n X dL_verdict_1 2 rfl 1 rfl ?_
  have hht : HT RL "java/lang/IllegalStateException" s [(0, 13, 14, 21)] 2 0 14 := ⟨(0, 13, 14, 21), rfl, rfl, by decide, by decide, xl_L_21, xc_ISE, by
    intro i z hi hz
    omega⟩
  refine v_txC X htab hM (h_cm.1) (x_X9_isGuilty_1 l hl E x co hs er fa ss k hO gk k0 nk) kvX9_isGuilty kiX9_isGuilty kl_L_71 (q0 := 0) rfl rfl (As := [.int (zI k)]) rfl rfl rfl dL_verdict_2 0 14 hht (k' := 1) (n' := 6) rfl rfl (fun q hq => hq.elim) ⟨h_cm, h_co⟩ (fun q9 H1 lo1 hM hF hpo => ?_)
  replace h_cm := h_cm.kept hF 1 rfl (fun q _ _ h => h.elim)
  replace h_co := h_co.kept hF 28 rfl (fun q _ _ h => h.elim)
  show V p l e (rmL 9 1 6) s m args below meth cd Q 3 H1 lo1 1 6 14 [(0, .ref x), (1, .int (zI k))] [.ref q9]
  refine v_astore_n X dL_verdict_14 15 rfl rfl (by decide) (L' := [(2, .ref q9), (0, .ref x), (1, .int (zI k))]) rfl ?_
  refine v_sipush X dL_verdict_15 18 rfl rfl ?_
  subst hQ; exact m_iret X hr hlk hM dL_verdict_18 rfl rfl
