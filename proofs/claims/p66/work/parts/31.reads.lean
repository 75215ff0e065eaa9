theorem faC_b {co : Nat → Int → Int} (hO : OkC co) (k w : Int) : -1 ≤ faC co k w ∧ faC co k w < 11 := by
  have h := firstZ_b (fun j => 0 < mgC co k + j * (co 8 (k * 8 + w) * co 9 (k * 8 + w))) (9 - co 11 w + 1).toNat
  have h2 := hO.b11 w
  have h3 : faC co k w = firstZ (fun j => 0 < mgC co k + j * (co 8 (k * 8 + w) * co 9 (k * 8 + w))) (9 - co 11 w + 1).toNat := rfl
  omega
set_option maxHeartbeats 4000000 in
set_option maxRecDepth 20000 in
theorem c_X9_needCase (l : Launch) (E : Nat → Nat → Nat) (x : Nat) (co : Nat → Int → Int) (hs : Int) (er : Int) (fa : Int) (ss : Int) (k : Int) (hO : OkC co) (gk : Rg k) (k0 : 0 ≤ k ∧ k < co 0 0) : Rd l yX9_needCase cX9_needCase 2 none 1 E [.ref x, .int (zI k)] ([(x, .inr (11, [.ref (x + 1), .ref (x + 29), .ref (x + 57), .ref (x + 85), .ref (x + 311), .ref (x + 314), .ref (x + 319), .ref (x + 332), .int (zI hs), .int (zI er), .int (zI fa), .int (zI ss)]))] ++ courtW E (x + 1) co) none := by
  refine Rd.start (own := RX9) rfl (by decide +kernel) (Nat.le_of_ble_eq_true rfl) ?_
  intro p e s m below meth cd args Q hQ X hr hlk hC hP
  have h_co := PW.right hP
  have h_cm := (PW.left hP)
  have hb0 := hO.b0
  have hbw := hO.bw
  refine v_aload_n X dX9_needCase_0 1 rfl 0 rfl ?_
  refine v_getf X hC h_cm inX9 0 rfl rfl 0 (by decide) kf_X9_10 (fun _ h => h) rfl dX9_needCase_1 4 rfl ?_
  refine v_iload_n X dX9_needCase_4 5 rfl 1 rfl ?_
  refine v_rdV X hC h_co (c_X0_hasCase l E (x + 1) co k hO gk) kvX0_hasCase kiX0_hasCase kl_X9_417 rfl rfl (As := [.int (zI k)]) rfl rfl rfl dX9_needCase_5 8 rfl ?_
  show V p l e (rmL 1 0 0) s m args below meth cd Q 2 s.heap [] 0 0 8 [(0, .ref x), (1, .int (zI k))] [.int (zI (bz (0 ≤ k ∧ k < co 0 0)))]
  refine v_bif_ne X dX9_needCase_8 11 22 rfl (by decide) (fun c_1 => ?_) (fun c_1 => ?_)
  · skip
    subst hQ; exact v_vret0 X hr hlk dX9_needCase_22
  · skip
    exfalso; omega
set_option maxHeartbeats 4000000 in
set_option maxRecDepth 20000 in
theorem x_X9_needCase_0 (l : Launch) (hl : l.stackTraces = false) (E : Nat → Nat → Nat) (x : Nat) (co : Nat → Int → Int) (hs : Int) (er : Int) (fa : Int) (ss : Int) (k : Int) (hO : OkC co) (gk : Rg k) (nk : ¬ (0 ≤ k ∧ k < co 0 0)) : Tx l yX9_needCase cX9_needCase 2 none 6 1 6 E [] [.ref x, .int (zI k)] (fun H => PR E x [(x, .inr (11, [.ref (x + 1), .ref (x + 29), .ref (x + 57), .ref (x + 85), .ref (x + 311), .ref (x + 314), .ref (x + 319), .ref (x + 332), .int (zI hs), .int (zI er), .int (zI fa), .int (zI ss)]))] H ∧ PR E (x + 1) (courtW E (x + 1) co) H) "java/lang/IndexOutOfBoundsException" (fun H => True) := by
  refine Tx.start (own := RX9) rfl (by decide +kernel) (Nat.le_of_ble_eq_true rfl) ?_
  intro p e s m below meth cd args Q hQ X tb hlk hM hPr
  obtain ⟨h_cm, h_co⟩ := hPr
  have hb0 := hO.b0
  have hbw := hO.bw
  refine v_aload_n X dX9_needCase_0 1 rfl 0 rfl ?_
  refine v_getf X hM.C h_cm.1 inX9 0 rfl rfl 0 (by decide) kf_X9_10 (fun _ h => h) rfl dX9_needCase_1 4 rfl ?_
  refine v_iload_n X dX9_needCase_4 5 rfl 1 rfl ?_
  refine v_rdV X hM.C h_co.1 (c_X0_hasCase l E (x + 1) co k hO gk) kvX0_hasCase kiX0_hasCase kl_X9_417 rfl rfl (As := [.int (zI k)]) rfl rfl rfl dX9_needCase_5 8 rfl ?_
  show V p l e (rmL 6 1 6) s m args below meth cd Q 2 s.heap [] 0 0 8 [(0, .ref x), (1, .int (zI k))] [.int (zI (bz (0 ≤ k ∧ k < co 0 0)))]
  refine v_bif_ne X dX9_needCase_8 11 22 rfl (by decide) (fun c_1 => ?_) (fun c_1 => ?_)
  · skip
    exfalso; omega
  · skip
    subst hQ; exact v_throwW X hl tb hlk hM xt_IOB xk_IOB 13 rfl dX9_needCase_11 dX9_needCase_14 dX9_needCase_15 dX9_needCase_18 dX9_needCase_21 rfl (fun H1 hF => trivial)
set_option maxHeartbeats 4000000 in
set_option maxRecDepth 20000 in
theorem c_X9_needWitness (l : Launch) (E : Nat → Nat → Nat) (x : Nat) (co : Nat → Int → Int) (hs : Int) (er : Int) (fa : Int) (ss : Int) (w : Int) (hO : OkC co) (gw : Rg w) (k0 : 0 ≤ w ∧ w < co 0 1) : Rd l yX9_needWitness cX9_needWitness 2 none 1 E [.ref x, .int (zI w)] ([(x, .inr (11, [.ref (x + 1), .ref (x + 29), .ref (x + 57), .ref (x + 85), .ref (x + 311), .ref (x + 314), .ref (x + 319), .ref (x + 332), .int (zI hs), .int (zI er), .int (zI fa), .int (zI ss)]))] ++ courtW E (x + 1) co) none := by
  refine Rd.start (own := RX9) rfl (by decide +kernel) (Nat.le_of_ble_eq_true rfl) ?_
  intro p e s m below meth cd args Q hQ X hr hlk hC hP
  have h_co := PW.right hP
  have h_cm := (PW.left hP)
  have hb0 := hO.b0
  have hbw := hO.bw
  refine v_aload_n X dX9_needWitness_0 1 rfl 0 rfl ?_
  refine v_getf X hC h_cm inX9 0 rfl rfl 0 (by decide) kf_X9_10 (fun _ h => h) rfl dX9_needWitness_1 4 rfl ?_
  refine v_iload_n X dX9_needWitness_4 5 rfl 1 rfl ?_
  refine v_rdV X hC h_co (c_X0_hasWitness l E (x + 1) co w hO gw) kvX0_hasWitness kiX0_hasWitness kl_X9_422 rfl rfl (As := [.int (zI w)]) rfl rfl rfl dX9_needWitness_5 8 rfl ?_
  show V p l e (rmL 1 0 0) s m args below meth cd Q 2 s.heap [] 0 0 8 [(0, .ref x), (1, .int (zI w))] [.int (zI (bz (0 ≤ w ∧ w < co 0 1)))]
  refine v_bif_ne X dX9_needWitness_8 11 22 rfl (by decide) (fun c_1 => ?_) (fun c_1 => ?_)
  · skip
    subst hQ; exact v_vret0 X hr hlk dX9_needWitness_22
  · skip
    exfalso; omega
set_option maxHeartbeats 4000000 in
set_option maxRecDepth 20000 in
theorem x_X9_needWitness_0 (l : Launch) (hl : l.stackTraces = false) (E : Nat → Nat → Nat) (x : Nat) (co : Nat → Int → Int) (hs : Int) (er : Int) (fa : Int) (ss : Int) (w : Int) (hO : OkC co) (gw : Rg w) (nk : ¬ (0 ≤ w ∧ w < co 0 1)) : Tx l yX9_needWitness cX9_needWitness 2 none 6 1 6 E [] [.ref x, .int (zI w)] (fun H => PR E x [(x, .inr (11, [.ref (x + 1), .ref (x + 29), .ref (x + 57), .ref (x + 85), .ref (x + 311), .ref (x + 314), .ref (x + 319), .ref (x + 332), .int (zI hs), .int (zI er), .int (zI fa), .int (zI ss)]))] H ∧ PR E (x + 1) (courtW E (x + 1) co) H) "java/lang/IndexOutOfBoundsException" (fun H => True) := by
  refine Tx.start (own := RX9) rfl (by decide +kernel) (Nat.le_of_ble_eq_true rfl) ?_
  intro p e s m below meth cd args Q hQ X tb hlk hM hPr
  obtain ⟨h_cm, h_co⟩ := hPr
  have hb0 := hO.b0
  have hbw := hO.bw
  refine v_aload_n X dX9_needWitness_0 1 rfl 0 rfl ?_
  refine v_getf X hM.C h_cm.1 inX9 0 rfl rfl 0 (by decide) kf_X9_10 (fun _ h => h) rfl dX9_needWitness_1 4 rfl ?_
  refine v_iload_n X dX9_needWitness_4 5 rfl 1 rfl ?_
  refine v_rdV X hM.C h_co.1 (c_X0_hasWitness l E (x + 1) co w hO gw) kvX0_hasWitness kiX0_hasWitness kl_X9_422 rfl rfl (As := [.int (zI w)]) rfl rfl rfl dX9_needWitness_5 8 rfl ?_
  show V p l e (rmL 6 1 6) s m args below meth cd Q 2 s.heap [] 0 0 8 [(0, .ref x), (1, .int (zI w))] [.int (zI (bz (0 ≤ w ∧ w < co 0 1)))]
  refine v_bif_ne X dX9_needWitness_8 11 22 rfl (by decide) (fun c_1 => ?_) (fun c_1 => ?_)
  · skip
    exfalso; omega
  · skip
    subst hQ; exact v_throwW X hl tb hlk hM xt_IOB xk_IOB 16 rfl dX9_needWitness_11 dX9_needWitness_14 dX9_needWitness_15 dX9_needWitness_18 dX9_needWitness_21 rfl (fun H1 hF => trivial)
set_option maxHeartbeats 4000000 in
set_option maxRecDepth 20000 in
theorem c_X9_needTestimony (l : Launch) (E : Nat → Nat → Nat) (x : Nat) (co : Nat → Int → Int) (hs : Int) (er : Int) (fa : Int) (ss : Int) (k : Int) (w : Int) (hO : OkC co) (gk : Rg k) (gw : Rg w) (k0 : 0 ≤ k ∧ k < co 0 0) (k1 : 0 ≤ w ∧ w < co 0 1) (k2 : 0 < co 9 (k * 8 + w)) : Rd l yX9_needTestimony cX9_needTestimony 3 none 2 E [.ref x, .int (zI k), .int (zI w)] ([(x, .inr (11, [.ref (x + 1), .ref (x + 29), .ref (x + 57), .ref (x + 85), .ref (x + 311), .ref (x + 314), .ref (x + 319), .ref (x + 332), .int (zI hs), .int (zI er), .int (zI fa), .int (zI ss)]))] ++ courtW E (x + 1) co) none := by
  refine Rd.start (own := RX9) rfl (by decide +kernel) (Nat.le_of_ble_eq_true rfl) ?_
  intro p e s m below meth cd args Q hQ X hr hlk hC hP
  have h_co := PW.right hP
  have h_cm := (PW.left hP)
  have hb0 := hO.b0
  have hbw := hO.bw
  refine v_aload_n X dX9_needTestimony_0 1 rfl 0 rfl ?_
  refine v_iload_n X dX9_needTestimony_1 2 rfl 1 rfl ?_
  refine v_rdV X hC (PW.app h_cm h_co) (c_X9_needCase l E x co hs er fa ss k hO gk k0) kvX9_needCase kiX9_needCase kl_X9_101 rfl rfl (As := [.int (zI k)]) rfl rfl rfl dX9_needTestimony_2 5 rfl ?_
  show V p l e (rmL 2 0 0) s m args below meth cd Q 3 s.heap [] 0 0 5 [(0, .ref x), (1, .int (zI k)), (2, .int (zI w))] []
  refine v_aload_n X dX9_needTestimony_5 6 rfl 0 rfl ?_
  refine v_iload_n X dX9_needTestimony_6 7 rfl 2 rfl ?_
  refine v_rdV X hC (PW.app h_cm h_co) (c_X9_needWitness l E x co hs er fa ss w hO gw k1) kvX9_needWitness kiX9_needWitness kl_X9_141 rfl rfl (As := [.int (zI w)]) rfl rfl rfl dX9_needTestimony_7 10 rfl ?_
  show V p l e (rmL 2 0 0) s m args below meth cd Q 3 s.heap [] 0 0 10 [(0, .ref x), (1, .int (zI k)), (2, .int (zI w))] []
  refine v_aload_n X dX9_needTestimony_10 11 rfl 0 rfl ?_
  refine v_getf X hC h_cm inX9 0 rfl rfl 0 (by decide) kf_X9_10 (fun _ h => h) rfl dX9_needTestimony_11 14 rfl ?_
  refine v_iload_n X dX9_needTestimony_14 15 rfl 1 rfl ?_
  refine v_iload_n X dX9_needTestimony_15 16 rfl 2 rfl ?_
  refine v_rdV X hC h_co (c_X0_hasHeard l E (x + 1) co k w hO (by omega) (by omega) (by omega) (by omega)) kvX0_hasHeard kiX0_hasHeard kl_X9_144 rfl rfl (As := [.int (zI k), .int (zI w)]) rfl rfl rfl dX9_needTestimony_16 19 rfl ?_
  show V p l e (rmL 2 0 0) s m args below meth cd Q 3 s.heap [] 0 0 19 [(0, .ref x), (1, .int (zI k)), (2, .int (zI w))] [.int (zI (bz (0 < co 9 (k * 8 + w))))]
  refine v_bif_ne X dX9_needTestimony_19 22 33 rfl (by decide) (fun c_1 => ?_) (fun c_1 => ?_)
  · skip
    subst hQ; exact v_vret0 X hr hlk dX9_needTestimony_33
  · skip
    exfalso; omega
set_option maxHeartbeats 4000000 in
set_option maxRecDepth 20000 in
theorem x_X9_needTestimony_0 (l : Launch) (hl : l.stackTraces = false) (E : Nat → Nat → Nat) (x : Nat) (co : Nat → Int → Int) (hs : Int) (er : Int) (fa : Int) (ss : Int) (k : Int) (w : Int) (hO : OkC co) (gk : Rg k) (gw : Rg w) (nk : ¬ (0 ≤ k ∧ k < co 0 0)) : Tx l yX9_needTestimony cX9_needTestimony 3 none 7 1 6 E [] [.ref x, .int (zI k), .int (zI w)] (fun H => PR E x [(x, .inr (11, [.ref (x + 1), .ref (x + 29), .ref (x + 57), .ref (x + 85), .ref (x + 311), .ref (x + 314), .ref (x + 319), .ref (x + 332), .int (zI hs), .int (zI er), .int (zI fa), .int (zI ss)]))] H ∧ PR E (x + 1) (courtW E (x + 1) co) H) "java/lang/IndexOutOfBoundsException" (fun H => True) := by
  refine Tx.start (own := RX9) rfl (by decide +kernel) (Nat.le_of_ble_eq_true rfl) ?_
  intro p e s m below meth cd args Q hQ X tb hlk hM hPr
  obtain ⟨h_cm, h_co⟩ := hPr
  have hb0 := hO.b0
  have hbw := hO.bw
  refine v_aload_n X dX9_needTestimony_0 1 rfl 0 rfl ?_
  refine v_iload_n X dX9_needTestimony_1 2 rfl 1 rfl ?_
  subst hQ; exact v_txV X tb hlk hM (h_cm.1) (x_X9_needCase_0 l hl E x co hs er fa ss k hO gk nk) kvX9_needCase kiX9_needCase kl_X9_101 (q0 := 0) rfl rfl (As := [.int (zI k)]) rfl rfl rfl rfl dX9_needTestimony_2 (fun q hq => hq.elim) ⟨h_cm, h_co⟩ (fun H1 hF hpo => trivial)
set_option maxHeartbeats 4000000 in
set_option maxRecDepth 20000 in
theorem x_X9_needTestimony_1 (l : Launch) (hl : l.stackTraces = false) (E : Nat → Nat → Nat) (x : Nat) (co : Nat → Int → Int) (hs : Int) (er : Int) (fa : Int) (ss : Int) (k : Int) (w : Int) (hO : OkC co) (gk : Rg k) (gw : Rg w) (k0 : 0 ≤ k ∧ k < co 0 0) (nk : ¬ (0 ≤ w ∧ w < co 0 1)) : Tx l yX9_needTestimony cX9_needTestimony 3 none 7 1 6 E [] [.ref x, .int (zI k), .int (zI w)] (fun H => PR E x [(x, .inr (11, [.ref (x + 1), .ref (x + 29), .ref (x + 57), .ref (x + 85), .ref (x + 311), .ref (x + 314), .ref (x + 319), .ref (x + 332), .int (zI hs), .int (zI er), .int (zI fa), .int (zI ss)]))] H ∧ PR E (x + 1) (courtW E (x + 1) co) H) "java/lang/IndexOutOfBoundsException" (fun H => True) := by
  refine Tx.start (own := RX9) rfl (by decide +kernel) (Nat.le_of_ble_eq_true rfl) ?_
  intro p e s m below meth cd args Q hQ X tb hlk hM hPr
  obtain ⟨h_cm, h_co⟩ := hPr
  have hb0 := hO.b0
  have hbw := hO.bw
  refine v_aload_n X dX9_needTestimony_0 1 rfl 0 rfl ?_
  refine v_iload_n X dX9_needTestimony_1 2 rfl 1 rfl ?_
  refine v_rdV X hM.C (PW.app h_cm.1 h_co.1) (c_X9_needCase l E x co hs er fa ss k hO gk k0) kvX9_needCase kiX9_needCase kl_X9_101 rfl rfl (As := [.int (zI k)]) rfl rfl rfl dX9_needTestimony_2 5 rfl ?_
  show V p l e (rmL 7 1 6) s m args below meth cd Q 3 s.heap [] 0 0 5 [(0, .ref x), (1, .int (zI k)), (2, .int (zI w))] []
  refine v_aload_n X dX9_needTestimony_5 6 rfl 0 rfl ?_
  refine v_iload_n X dX9_needTestimony_6 7 rfl 2 rfl ?_
  subst hQ; exact v_txV X tb hlk hM (h_cm.1) (x_X9_needWitness_0 l hl E x co hs er fa ss w hO gw nk) kvX9_needWitness kiX9_needWitness kl_X9_141 (q0 := 0) rfl rfl (As := [.int (zI w)]) rfl rfl rfl rfl dX9_needTestimony_7 (fun q hq => hq.elim) ⟨h_cm, h_co⟩ (fun H1 hF hpo => trivial)
set_option maxHeartbeats 4000000 in
set_option maxRecDepth 20000 in
theorem x_X9_needTestimony_2 (l : Launch) (hl : l.stackTraces = false) (E : Nat → Nat → Nat) (x : Nat) (co : Nat → Int → Int) (hs : Int) (er : Int) (fa : Int) (ss : Int) (k : Int) (w : Int) (hO : OkC co) (gk : Rg k) (gw : Rg w) (k0 : 0 ≤ k ∧ k < co 0 0) (k1 : 0 ≤ w ∧ w < co 0 1) (nk : ¬ (0 < co 9 (k * 8 + w))) : Tx l yX9_needTestimony cX9_needTestimony 3 none 6 1 6 E [] [.ref x, .int (zI k), .int (zI w)] (fun H => PR E x [(x, .inr (11, [.ref (x + 1), .ref (x + 29), .ref (x + 57), .ref (x + 85), .ref (x + 311), .ref (x + 314), .ref (x + 319), .ref (x + 332), .int (zI hs), .int (zI er), .int (zI fa), .int (zI ss)]))] H ∧ PR E (x + 1) (courtW E (x + 1) co) H) "java/util/NoSuchElementException" (fun H => True) := by
  refine Tx.start (own := RX9) rfl (by decide +kernel) (Nat.le_of_ble_eq_true rfl) ?_
  intro p e s m below meth cd args Q hQ X tb hlk hM hPr
  obtain ⟨h_cm, h_co⟩ := hPr
  have hb0 := hO.b0
  have hbw := hO.bw
  refine v_aload_n X dX9_needTestimony_0 1 rfl 0 rfl ?_
  refine v_iload_n X dX9_needTestimony_1 2 rfl 1 rfl ?_
  refine v_rdV X hM.C (PW.app h_cm.1 h_co.1) (c_X9_needCase l E x co hs er fa ss k hO gk k0) kvX9_needCase kiX9_needCase kl_X9_101 rfl rfl (As := [.int (zI k)]) rfl rfl rfl dX9_needTestimony_2 5 rfl ?_
  show V p l e (rmL 6 1 6) s m args below meth cd Q 3 s.heap [] 0 0 5 [(0, .ref x), (1, .int (zI k)), (2, .int (zI w))] []
  refine v_aload_n X dX9_needTestimony_5 6 rfl 0 rfl ?_
  refine v_iload_n X dX9_needTestimony_6 7 rfl 2 rfl ?_
  refine v_rdV X hM.C (PW.app h_cm.1 h_co.1) (c_X9_needWitness l E x co hs er fa ss w hO gw k1) kvX9_needWitness kiX9_needWitness kl_X9_141 rfl rfl (As := [.int (zI w)]) rfl rfl rfl dX9_needTestimony_7 10 rfl ?_
  show V p l e (rmL 6 1 6) s m args below meth cd Q 3 s.heap [] 0 0 10 [(0, .ref x), (1, .int (zI k)), (2, .int (zI w))] []
  refine v_aload_n X dX9_needTestimony_10 11 rfl 0 rfl ?_
  refine v_getf X hM.C h_cm.1 inX9 0 rfl rfl 0 (by decide) kf_X9_10 (fun _ h => h) rfl dX9_needTestimony_11 14 rfl ?_
  refine v_iload_n X dX9_needTestimony_14 15 rfl 1 rfl ?_
  refine v_iload_n X dX9_needTestimony_15 16 rfl 2 rfl ?_
  refine v_rdV X hM.C h_co.1 (c_X0_hasHeard l E (x + 1) co k w hO (by omega) (by omega) (by omega) (by omega)) kvX0_hasHeard kiX0_hasHeard kl_X9_144 rfl rfl (As := [.int (zI k), .int (zI w)]) rfl rfl rfl dX9_needTestimony_16 19 rfl ?_
  show V p l e (rmL 6 1 6) s m args below meth cd Q 3 s.heap [] 0 0 19 [(0, .ref x), (1, .int (zI k)), (2, .int (zI w))] [.int (zI (bz (0 < co 9 (k * 8 + w))))]
  refine v_bif_ne X dX9_needTestimony_19 22 33 rfl (by decide) (fun c_1 => ?_) (fun c_1 => ?_)
  · skip
    exfalso; omega
  · skip
    subst hQ; exact v_throwW X hl tb hlk hM xt_NSE xk_NSE 9 rfl dX9_needTestimony_22 dX9_needTestimony_25 dX9_needTestimony_26 dX9_needTestimony_29 dX9_needTestimony_32 rfl (fun H1 hF => trivial)
set_option maxHeartbeats 4000000 in
set_option maxRecDepth 20000 in
theorem c_X9_needDefendant (l : Launch) (E : Nat → Nat → Nat) (d : Int) (gd : Rg d) (k0 : 0 ≤ d ∧ d < 6) : Rd l yX9_needDefendant cX9_needDefendant 1 none 1 E [.int (zI d)] ([]) none := by
  refine Rd.start (own := RX9) rfl (by decide +kernel) (Nat.le_of_ble_eq_true rfl) ?_
  intro p e s m below meth cd args Q hQ X hr hlk hC hP
  refine v_iload_n X dX9_needDefendant_0 1 rfl 0 rfl ?_
  refine v_rdS X hC (ws0 E s.heap) (c_X9_isDefendant l E d gd) kvX9_isDefendant ksX9_isDefendant kl_X9_78 (As := [.int (zI d)]) rfl rfl rfl dX9_needDefendant_1 4 rfl ?_
  show V p l e (rmL 1 0 0) s m args below meth cd Q 1 s.heap [] 0 0 4 [(0, .int (zI d))] [.int (zI (bz (0 ≤ d ∧ d < 6)))]
  refine v_bif_ne X dX9_needDefendant_4 7 18 rfl (by decide) (fun c_1 => ?_) (fun c_1 => ?_)
  · skip
    subst hQ; exact v_vret0 X hr hlk dX9_needDefendant_18
  · skip
    exfalso; omega
set_option maxHeartbeats 4000000 in
set_option maxRecDepth 20000 in
theorem x_X9_needDefendant_0 (l : Launch) (hl : l.stackTraces = false) (E : Nat → Nat → Nat) (d : Int) (gd : Rg d) (nk : ¬ (0 ≤ d ∧ d < 6)) : Tx l yX9_needDefendant cX9_needDefendant 1 none 6 1 6 E [] [.int (zI d)] (fun H => True) "java/lang/IllegalArgumentException" (fun H => True) := by
  refine Tx.start (own := RX9) rfl (by decide +kernel) (Nat.le_of_ble_eq_true rfl) ?_
  intro p e s m below meth cd args Q hQ X tb hlk hM hPr
  refine v_iload_n X dX9_needDefendant_0 1 rfl 0 rfl ?_
  refine v_rdS X hM.C (ws0 E s.heap) (c_X9_isDefendant l E d gd) kvX9_isDefendant ksX9_isDefendant kl_X9_78 (As := [.int (zI d)]) rfl rfl rfl dX9_needDefendant_1 4 rfl ?_
  show V p l e (rmL 6 1 6) s m args below meth cd Q 1 s.heap [] 0 0 4 [(0, .int (zI d))] [.int (zI (bz (0 ≤ d ∧ d < 6)))]
  refine v_bif_ne X dX9_needDefendant_4 7 18 rfl (by decide) (fun c_1 => ?_) (fun c_1 => ?_)
  · skip
    exfalso; omega
  · skip
    subst hQ; exact v_throwW X hl tb hlk hM xt_IAE xk_IAE 21 rfl dX9_needDefendant_7 dX9_needDefendant_10 dX9_needDefendant_11 dX9_needDefendant_14 dX9_needDefendant_17 rfl (fun H1 hF => trivial)
set_option maxHeartbeats 4000000 in
set_option maxRecDepth 20000 in
theorem c_X9_defendantOf (l : Launch) (E : Nat → Nat → Nat) (x : Nat) (co : Nat → Int → Int) (hs : Int) (er : Int) (fa : Int) (ss : Int) (k : Int) (hO : OkC co) (gk : Rg k) (k0 : 0 ≤ k ∧ k < co 0 0) : Rd l yX9_defendantOf cX9_defendantOf 2 (some .int) 2 E [.ref x, .int (zI k)] ([(x, .inr (11, [.ref (x + 1), .ref (x + 29), .ref (x + 57), .ref (x + 85), .ref (x + 311), .ref (x + 314), .ref (x + 319), .ref (x + 332), .int (zI hs), .int (zI er), .int (zI fa), .int (zI ss)]))] ++ courtW E (x + 1) co) (some (.int (zI (co 1 k)))) := by
  refine Rd.start (own := RX9) rfl (by decide +kernel) (Nat.le_of_ble_eq_true rfl) ?_
  intro p e s m below meth cd args Q hQ X hr hlk hC hP
  have h_co := PW.right hP
  have h_cm := (PW.left hP)
  have hb0 := hO.b0
  have hbw := hO.bw
  refine v_aload_n X dX9_defendantOf_0 1 rfl 0 rfl ?_
  refine v_iload_n X dX9_defendantOf_1 2 rfl 1 rfl ?_
  refine v_rdV X hC (PW.app h_cm h_co) (c_X9_needCase l E x co hs er fa ss k hO gk k0) kvX9_needCase kiX9_needCase kl_X9_101 rfl rfl (As := [.int (zI k)]) rfl rfl rfl dX9_defendantOf_2 5 rfl ?_
  show V p l e (rmL 2 0 0) s m args below meth cd Q 2 s.heap [] 0 0 5 [(0, .ref x), (1, .int (zI k))] []
  refine v_aload_n X dX9_defendantOf_5 6 rfl 0 rfl ?_
  refine v_getf X hC h_cm inX9 0 rfl rfl 0 (by decide) kf_X9_10 (fun _ h => h) rfl dX9_defendantOf_6 9 rfl ?_
  refine v_getfN X hC h_co inX0 0 rfl rfl 4 (by decide) kfn_X9_105 (fun _ h => h) rfl dX9_defendantOf_9 12 rfl ?_
  refine v_iload_n X dX9_defendantOf_12 13 rfl 1 rfl ?_
  refine v_rdV X hC (PW.part h_co 1 2 (wc := rowW E (x + 2) 16 (co 1)) rfl) (c_X6_get l E (x + 2) 16 (co 1) k (by omega) (by omega) (by omega)) kvX6_get kiX6_get kl_X9_109 rfl rfl (As := [.int (zI k)]) rfl rfl rfl dX9_defendantOf_13 16 rfl ?_
  show V p l e (rmL 2 0 0) s m args below meth cd Q 2 s.heap [] 0 0 16 [(0, .ref x), (1, .int (zI k))] [.int (zI (co 1 k))]
  have hb_1 := hO.b1 k
  subst hQ; exact v_iret0 X hr hlk dX9_defendantOf_16 rfl
set_option maxHeartbeats 4000000 in
set_option maxRecDepth 20000 in
theorem x_X9_defendantOf_0 (l : Launch) (hl : l.stackTraces = false) (E : Nat → Nat → Nat) (x : Nat) (co : Nat → Int → Int) (hs : Int) (er : Int) (fa : Int) (ss : Int) (k : Int) (hO : OkC co) (gk : Rg k) (nk : ¬ (0 ≤ k ∧ k < co 0 0)) : Tx l yX9_defendantOf cX9_defendantOf 2 (some .int) 7 1 6 E [] [.ref x, .int (zI k)] (fun H => PR E x [(x, .inr (11, [.ref (x + 1), .ref (x + 29), .ref (x + 57), .ref (x + 85), .ref (x + 311), .ref (x + 314), .ref (x + 319), .ref (x + 332), .int (zI hs), .int (zI er), .int (zI fa), .int (zI ss)]))] H ∧ PR E (x + 1) (courtW E (x + 1) co) H) "java/lang/IndexOutOfBoundsException" (fun H => True) := by
  refine Tx.start (own := RX9) rfl (by decide +kernel) (Nat.le_of_ble_eq_true rfl) ?_
  intro p e s m below meth cd args Q hQ X tb hlk hM hPr
  obtain ⟨h_cm, h_co⟩ := hPr
  have hb0 := hO.b0
  have hbw := hO.bw
  refine v_aload_n X dX9_defendantOf_0 1 rfl 0 rfl ?_
  refine v_iload_n X dX9_defendantOf_1 2 rfl 1 rfl ?_
  subst hQ; exact v_txV X tb hlk hM (h_cm.1) (x_X9_needCase_0 l hl E x co hs er fa ss k hO gk nk) kvX9_needCase kiX9_needCase kl_X9_101 (q0 := 0) rfl rfl (As := [.int (zI k)]) rfl rfl rfl rfl dX9_defendantOf_2 (fun q hq => hq.elim) ⟨h_cm, h_co⟩ (fun H1 hF hpo => trivial)
set_option maxHeartbeats 4000000 in
set_option maxRecDepth 20000 in
theorem c_X9_offenceOf (l : Launch) (E : Nat → Nat → Nat) (x : Nat) (co : Nat → Int → Int) (hs : Int) (er : Int) (fa : Int) (ss : Int) (k : Int) (hO : OkC co) (gk : Rg k) (k0 : 0 ≤ k ∧ k < co 0 0) : Rd l yX9_offenceOf cX9_offenceOf 2 (some .int) 2 E [.ref x, .int (zI k)] ([(x, .inr (11, [.ref (x + 1), .ref (x + 29), .ref (x + 57), .ref (x + 85), .ref (x + 311), .ref (x + 314), .ref (x + 319), .ref (x + 332), .int (zI hs), .int (zI er), .int (zI fa), .int (zI ss)]))] ++ courtW E (x + 1) co) (some (.int (zI (co 2 k)))) := by
  refine Rd.start (own := RX9) rfl (by decide +kernel) (Nat.le_of_ble_eq_true rfl) ?_
  intro p e s m below meth cd args Q hQ X hr hlk hC hP
  have h_co := PW.right hP
  have h_cm := (PW.left hP)
  have hb0 := hO.b0
  have hbw := hO.bw
  refine v_aload_n X dX9_offenceOf_0 1 rfl 0 rfl ?_
  refine v_iload_n X dX9_offenceOf_1 2 rfl 1 rfl ?_
  refine v_rdV X hC (PW.app h_cm h_co) (c_X9_needCase l E x co hs er fa ss k hO gk k0) kvX9_needCase kiX9_needCase kl_X9_101 rfl rfl (As := [.int (zI k)]) rfl rfl rfl dX9_offenceOf_2 5 rfl ?_
  show V p l e (rmL 2 0 0) s m args below meth cd Q 2 s.heap [] 0 0 5 [(0, .ref x), (1, .int (zI k))] []
  refine v_aload_n X dX9_offenceOf_5 6 rfl 0 rfl ?_
  refine v_getf X hC h_cm inX9 0 rfl rfl 0 (by decide) kf_X9_10 (fun _ h => h) rfl dX9_offenceOf_6 9 rfl ?_
  refine v_getfN X hC h_co inX0 0 rfl rfl 5 (by decide) kfn_X9_115 (fun _ h => h) rfl dX9_offenceOf_9 12 rfl ?_
  refine v_iload_n X dX9_offenceOf_12 13 rfl 1 rfl ?_
  refine v_rdV X hC (PW.part h_co 3 2 (wc := rowW E (x + 4) 16 (co 2)) rfl) (c_X6_get l E (x + 4) 16 (co 2) k (by omega) (by omega) (by omega)) kvX6_get kiX6_get kl_X9_109 rfl rfl (As := [.int (zI k)]) rfl rfl rfl dX9_offenceOf_13 16 rfl ?_
  show V p l e (rmL 2 0 0) s m args below meth cd Q 2 s.heap [] 0 0 16 [(0, .ref x), (1, .int (zI k))] [.int (zI (co 2 k))]
  have hb_1 := hO.b2 k
  subst hQ; exact v_iret0 X hr hlk dX9_offenceOf_16 rfl
set_option maxHeartbeats 4000000 in
set_option maxRecDepth 20000 in
theorem x_X9_offenceOf_0 (l : Launch) (hl : l.stackTraces = false) (E : Nat → Nat → Nat) (x : Nat) (co : Nat → Int → Int) (hs : Int) (er : Int) (fa : Int) (ss : Int) (k : Int) (hO : OkC co) (gk : Rg k) (nk : ¬ (0 ≤ k ∧ k < co 0 0)) : Tx l yX9_offenceOf cX9_offenceOf 2 (some .int) 7 1 6 E [] [.ref x, .int (zI k)] (fun H => PR E x [(x, .inr (11, [.ref (x + 1), .ref (x + 29), .ref (x + 57), .ref (x + 85), .ref (x + 311), .ref (x + 314), .ref (x + 319), .ref (x + 332), .int (zI hs), .int (zI er), .int (zI fa), .int (zI ss)]))] H ∧ PR E (x + 1) (courtW E (x + 1) co) H) "java/lang/IndexOutOfBoundsException" (fun H => True) := by
  refine Tx.start (own := RX9) rfl (by decide +kernel) (Nat.le_of_ble_eq_true rfl) ?_
  intro p e s m below meth cd args Q hQ X tb hlk hM hPr
  obtain ⟨h_cm, h_co⟩ := hPr
  have hb0 := hO.b0
  have hbw := hO.bw
  refine v_aload_n X dX9_offenceOf_0 1 rfl 0 rfl ?_
  refine v_iload_n X dX9_offenceOf_1 2 rfl 1 rfl ?_
  subst hQ; exact v_txV X tb hlk hM (h_cm.1) (x_X9_needCase_0 l hl E x co hs er fa ss k hO gk nk) kvX9_needCase kiX9_needCase kl_X9_101 (q0 := 0) rfl rfl (As := [.int (zI k)]) rfl rfl rfl rfl dX9_offenceOf_2 (fun q hq => hq.elim) ⟨h_cm, h_co⟩ (fun H1 hF hpo => trivial)
set_option maxHeartbeats 4000000 in
set_option maxRecDepth 20000 in
theorem c_X9_appealCount (l : Launch) (E : Nat → Nat → Nat) (x : Nat) (co : Nat → Int → Int) (hs : Int) (er : Int) (fa : Int) (ss : Int) (k : Int) (hO : OkC co) (gk : Rg k) (k0 : 0 ≤ k ∧ k < co 0 0) : Rd l yX9_appealCount cX9_appealCount 2 (some .int) 2 E [.ref x, .int (zI k)] ([(x, .inr (11, [.ref (x + 1), .ref (x + 29), .ref (x + 57), .ref (x + 85), .ref (x + 311), .ref (x + 314), .ref (x + 319), .ref (x + 332), .int (zI hs), .int (zI er), .int (zI fa), .int (zI ss)]))] ++ courtW E (x + 1) co) (some (.int (zI (co 5 k)))) := by
  refine Rd.start (own := RX9) rfl (by decide +kernel) (Nat.le_of_ble_eq_true rfl) ?_
  intro p e s m below meth cd args Q hQ X hr hlk hC hP
  have h_co := PW.right hP
  have h_cm := (PW.left hP)
  have hb0 := hO.b0
  have hbw := hO.bw
  refine v_aload_n X dX9_appealCount_0 1 rfl 0 rfl ?_
  refine v_iload_n X dX9_appealCount_1 2 rfl 1 rfl ?_
  refine v_rdV X hC (PW.app h_cm h_co) (c_X9_needCase l E x co hs er fa ss k hO gk k0) kvX9_needCase kiX9_needCase kl_X9_101 rfl rfl (As := [.int (zI k)]) rfl rfl rfl dX9_appealCount_2 5 rfl ?_
  show V p l e (rmL 2 0 0) s m args below meth cd Q 2 s.heap [] 0 0 5 [(0, .ref x), (1, .int (zI k))] []
  refine v_aload_n X dX9_appealCount_5 6 rfl 0 rfl ?_
  refine v_getf X hC h_cm inX9 0 rfl rfl 0 (by decide) kf_X9_10 (fun _ h => h) rfl dX9_appealCount_6 9 rfl ?_
  refine v_getfN X hC h_co inX0 0 rfl rfl 8 (by decide) kfn_X9_130 (fun _ h => h) rfl dX9_appealCount_9 12 rfl ?_
  refine v_iload_n X dX9_appealCount_12 13 rfl 1 rfl ?_
  refine v_rdV X hC (PW.part h_co 9 2 (wc := rowW E (x + 10) 16 (co 5)) rfl) (c_X6_get l E (x + 10) 16 (co 5) k (by omega) (by omega) (by omega)) kvX6_get kiX6_get kl_X9_109 rfl rfl (As := [.int (zI k)]) rfl rfl rfl dX9_appealCount_13 16 rfl ?_
  show V p l e (rmL 2 0 0) s m args below meth cd Q 2 s.heap [] 0 0 16 [(0, .ref x), (1, .int (zI k))] [.int (zI (co 5 k))]
  have hb_1 := hO.b5 k
  subst hQ; exact v_iret0 X hr hlk dX9_appealCount_16 rfl
set_option maxHeartbeats 4000000 in
set_option maxRecDepth 20000 in
theorem x_X9_appealCount_0 (l : Launch) (hl : l.stackTraces = false) (E : Nat → Nat → Nat) (x : Nat) (co : Nat → Int → Int) (hs : Int) (er : Int) (fa : Int) (ss : Int) (k : Int) (hO : OkC co) (gk : Rg k) (nk : ¬ (0 ≤ k ∧ k < co 0 0)) : Tx l yX9_appealCount cX9_appealCount 2 (some .int) 7 1 6 E [] [.ref x, .int (zI k)] (fun H => PR E x [(x, .inr (11, [.ref (x + 1), .ref (x + 29), .ref (x + 57), .ref (x + 85), .ref (x + 311), .ref (x + 314), .ref (x + 319), .ref (x + 332), .int (zI hs), .int (zI er), .int (zI fa), .int (zI ss)]))] H ∧ PR E (x + 1) (courtW E (x + 1) co) H) "java/lang/IndexOutOfBoundsException" (fun H => True) := by
  refine Tx.start (own := RX9) rfl (by decide +kernel) (Nat.le_of_ble_eq_true rfl) ?_
  intro p e s m below meth cd args Q hQ X tb hlk hM hPr
  obtain ⟨h_cm, h_co⟩ := hPr
  have hb0 := hO.b0
  have hbw := hO.bw
  refine v_aload_n X dX9_appealCount_0 1 rfl 0 rfl ?_
  refine v_iload_n X dX9_appealCount_1 2 rfl 1 rfl ?_
  subst hQ; exact v_txV X tb hlk hM (h_cm.1) (x_X9_needCase_0 l hl E x co hs er fa ss k hO gk nk) kvX9_needCase kiX9_needCase kl_X9_101 (q0 := 0) rfl rfl (As := [.int (zI k)]) rfl rfl rfl rfl dX9_appealCount_2 (fun q hq => hq.elim) ⟨h_cm, h_co⟩ (fun H1 hF hpo => trivial)
set_option maxHeartbeats 4000000 in
set_option maxRecDepth 20000 in
theorem c_X9_testimonyCount (l : Launch) (E : Nat → Nat → Nat) (x : Nat) (co : Nat → Int → Int) (hs : Int) (er : Int) (fa : Int) (ss : Int) (k : Int) (hO : OkC co) (gk : Rg k) (k0 : 0 ≤ k ∧ k < co 0 0) : Rd l yX9_testimonyCount cX9_testimonyCount 2 (some .int) 2 E [.ref x, .int (zI k)] ([(x, .inr (11, [.ref (x + 1), .ref (x + 29), .ref (x + 57), .ref (x + 85), .ref (x + 311), .ref (x + 314), .ref (x + 319), .ref (x + 332), .int (zI hs), .int (zI er), .int (zI fa), .int (zI ss)]))] ++ courtW E (x + 1) co) (some (.int (zI (co 6 k)))) := by
  refine Rd.start (own := RX9) rfl (by decide +kernel) (Nat.le_of_ble_eq_true rfl) ?_
  intro p e s m below meth cd args Q hQ X hr hlk hC hP
  have h_co := PW.right hP
  have h_cm := (PW.left hP)
  have hb0 := hO.b0
  have hbw := hO.bw
  refine v_aload_n X dX9_testimonyCount_0 1 rfl 0 rfl ?_
  refine v_iload_n X dX9_testimonyCount_1 2 rfl 1 rfl ?_
  refine v_rdV X hC (PW.app h_cm h_co) (c_X9_needCase l E x co hs er fa ss k hO gk k0) kvX9_needCase kiX9_needCase kl_X9_101 rfl rfl (As := [.int (zI k)]) rfl rfl rfl dX9_testimonyCount_2 5 rfl ?_
  show V p l e (rmL 2 0 0) s m args below meth cd Q 2 s.heap [] 0 0 5 [(0, .ref x), (1, .int (zI k))] []
  refine v_aload_n X dX9_testimonyCount_5 6 rfl 0 rfl ?_
  refine v_getf X hC h_cm inX9 0 rfl rfl 0 (by decide) kf_X9_10 (fun _ h => h) rfl dX9_testimonyCount_6 9 rfl ?_
  refine v_getfN X hC h_co inX0 0 rfl rfl 9 (by decide) kfn_X9_133 (fun _ h => h) rfl dX9_testimonyCount_9 12 rfl ?_
  refine v_iload_n X dX9_testimonyCount_12 13 rfl 1 rfl ?_
  refine v_rdV X hC (PW.part h_co 11 2 (wc := rowW E (x + 12) 16 (co 6)) rfl) (c_X6_get l E (x + 12) 16 (co 6) k (by omega) (by omega) (by omega)) kvX6_get kiX6_get kl_X9_109 rfl rfl (As := [.int (zI k)]) rfl rfl rfl dX9_testimonyCount_13 16 rfl ?_
  show V p l e (rmL 2 0 0) s m args below meth cd Q 2 s.heap [] 0 0 16 [(0, .ref x), (1, .int (zI k))] [.int (zI (co 6 k))]
  have hb_1 := hO.b6 k
  subst hQ; exact v_iret0 X hr hlk dX9_testimonyCount_16 rfl
set_option maxHeartbeats 4000000 in
set_option maxRecDepth 20000 in
theorem x_X9_testimonyCount_0 (l : Launch) (hl : l.stackTraces = false) (E : Nat → Nat → Nat) (x : Nat) (co : Nat → Int → Int) (hs : Int) (er : Int) (fa : Int) (ss : Int) (k : Int) (hO : OkC co) (gk : Rg k) (nk : ¬ (0 ≤ k ∧ k < co 0 0)) : Tx l yX9_testimonyCount cX9_testimonyCount 2 (some .int) 7 1 6 E [] [.ref x, .int (zI k)] (fun H => PR E x [(x, .inr (11, [.ref (x + 1), .ref (x + 29), .ref (x + 57), .ref (x + 85), .ref (x + 311), .ref (x + 314), .ref (x + 319), .ref (x + 332), .int (zI hs), .int (zI er), .int (zI fa), .int (zI ss)]))] H ∧ PR E (x + 1) (courtW E (x + 1) co) H) "java/lang/IndexOutOfBoundsException" (fun H => True) := by
  refine Tx.start (own := RX9) rfl (by decide +kernel) (Nat.le_of_ble_eq_true rfl) ?_
  intro p e s m below meth cd args Q hQ X tb hlk hM hPr
  obtain ⟨h_cm, h_co⟩ := hPr
  have hb0 := hO.b0
  have hbw := hO.bw
  refine v_aload_n X dX9_testimonyCount_0 1 rfl 0 rfl ?_
  refine v_iload_n X dX9_testimonyCount_1 2 rfl 1 rfl ?_
  subst hQ; exact v_txV X tb hlk hM (h_cm.1) (x_X9_needCase_0 l hl E x co hs er fa ss k hO gk nk) kvX9_needCase kiX9_needCase kl_X9_101 (q0 := 0) rfl rfl (As := [.int (zI k)]) rfl rfl rfl rfl dX9_testimonyCount_2 (fun q hq => hq.elim) ⟨h_cm, h_co⟩ (fun H1 hF hpo => trivial)
set_option maxHeartbeats 4000000 in
set_option maxRecDepth 20000 in
theorem c_X9_isOpen (l : Launch) (E : Nat → Nat → Nat) (x : Nat) (co : Nat → Int → Int) (hs : Int) (er : Int) (fa : Int) (ss : Int) (k : Int) (hO : OkC co) (gk : Rg k) (k0 : 0 ≤ k ∧ k < co 0 0) : Rd l yX9_isOpen cX9_isOpen 2 (some .boolean) 2 E [.ref x, .int (zI k)] ([(x, .inr (11, [.ref (x + 1), .ref (x + 29), .ref (x + 57), .ref (x + 85), .ref (x + 311), .ref (x + 314), .ref (x + 319), .ref (x + 332), .int (zI hs), .int (zI er), .int (zI fa), .int (zI ss)]))] ++ courtW E (x + 1) co) (some (.int (zI (bz (co 3 k = 0))))) := by
  refine Rd.start (own := RX9) rfl (by decide +kernel) (Nat.le_of_ble_eq_true rfl) ?_
  intro p e s m below meth cd args Q hQ X hr hlk hC hP
  have h_co := PW.right hP
  have h_cm := (PW.left hP)
  have hb0 := hO.b0
  have hbw := hO.bw
  refine v_aload_n X dX9_isOpen_0 1 rfl 0 rfl ?_
  refine v_iload_n X dX9_isOpen_1 2 rfl 1 rfl ?_
  refine v_rdV X hC (PW.app h_cm h_co) (c_X9_needCase l E x co hs er fa ss k hO gk k0) kvX9_needCase kiX9_needCase kl_X9_101 rfl rfl (As := [.int (zI k)]) rfl rfl rfl dX9_isOpen_2 5 rfl ?_
  show V p l e (rmL 2 0 0) s m args below meth cd Q 2 s.heap [] 0 0 5 [(0, .ref x), (1, .int (zI k))] []
  refine v_aload_n X dX9_isOpen_5 6 rfl 0 rfl ?_
  refine v_getf X hC h_cm inX9 0 rfl rfl 0 (by decide) kf_X9_10 (fun _ h => h) rfl dX9_isOpen_6 9 rfl ?_
  refine v_iconst X dX9_isOpen_9 10 rfl ?_
  refine v_iload_n X dX9_isOpen_10 11 rfl 1 rfl ?_
  refine v_rdV X hC h_co (c_X0_isIn l E (x + 1) co 0 k hO (by omega) (by omega) (by omega)) kvX0_isIn kiX0_isIn kl_X9_118 rfl rfl (As := [.int (zI 0), .int (zI k)]) rfl rfl rfl dX9_isOpen_11 14 rfl ?_
  show V p l e (rmL 2 0 0) s m args below meth cd Q 2 s.heap [] 0 0 14 [(0, .ref x), (1, .int (zI k))] [.int (zI (bz (co 3 k = 0)))]
  subst hQ; exact v_zret0 X hr hlk dX9_isOpen_14 rfl
set_option maxHeartbeats 4000000 in
set_option maxRecDepth 20000 in
theorem x_X9_isOpen_0 (l : Launch) (hl : l.stackTraces = false) (E : Nat → Nat → Nat) (x : Nat) (co : Nat → Int → Int) (hs : Int) (er : Int) (fa : Int) (ss : Int) (k : Int) (hO : OkC co) (gk : Rg k) (nk : ¬ (0 ≤ k ∧ k < co 0 0)) : Tx l yX9_isOpen cX9_isOpen 2 (some .boolean) 7 1 6 E [] [.ref x, .int (zI k)] (fun H => PR E x [(x, .inr (11, [.ref (x + 1), .ref (x + 29), .ref (x + 57), .ref (x + 85), .ref (x + 311), .ref (x + 314), .ref (x + 319), .ref (x + 332), .int (zI hs), .int (zI er), .int (zI fa), .int (zI ss)]))] H ∧ PR E (x + 1) (courtW E (x + 1) co) H) "java/lang/IndexOutOfBoundsException" (fun H => True) := by
  refine Tx.start (own := RX9) rfl (by decide +kernel) (Nat.le_of_ble_eq_true rfl) ?_
  intro p e s m below meth cd args Q hQ X tb hlk hM hPr
  obtain ⟨h_cm, h_co⟩ := hPr
  have hb0 := hO.b0
  have hbw := hO.bw
  refine v_aload_n X dX9_isOpen_0 1 rfl 0 rfl ?_
  refine v_iload_n X dX9_isOpen_1 2 rfl 1 rfl ?_
  subst hQ; exact v_txV X tb hlk hM (h_cm.1) (x_X9_needCase_0 l hl E x co hs er fa ss k hO gk nk) kvX9_needCase kiX9_needCase kl_X9_101 (q0 := 0) rfl rfl (As := [.int (zI k)]) rfl rfl rfl rfl dX9_isOpen_2 (fun q hq => hq.elim) ⟨h_cm, h_co⟩ (fun H1 hF hpo => trivial)
set_option maxHeartbeats 4000000 in
set_option maxRecDepth 20000 in
theorem c_X9_isDecided (l : Launch) (E : Nat → Nat → Nat) (x : Nat) (co : Nat → Int → Int) (hs : Int) (er : Int) (fa : Int) (ss : Int) (k : Int) (hO : OkC co) (gk : Rg k) (k0 : 0 ≤ k ∧ k < co 0 0) : Rd l yX9_isDecided cX9_isDecided 2 (some .boolean) 2 E [.ref x, .int (zI k)] ([(x, .inr (11, [.ref (x + 1), .ref (x + 29), .ref (x + 57), .ref (x + 85), .ref (x + 311), .ref (x + 314), .ref (x + 319), .ref (x + 332), .int (zI hs), .int (zI er), .int (zI fa), .int (zI ss)]))] ++ courtW E (x + 1) co) (some (.int (zI (bz (co 3 k = 1))))) := by
  refine Rd.start (own := RX9) rfl (by decide +kernel) (Nat.le_of_ble_eq_true rfl) ?_
  intro p e s m below meth cd args Q hQ X hr hlk hC hP
  have h_co := PW.right hP
  have h_cm := (PW.left hP)
  have hb0 := hO.b0
  have hbw := hO.bw
  refine v_aload_n X dX9_isDecided_0 1 rfl 0 rfl ?_
  refine v_iload_n X dX9_isDecided_1 2 rfl 1 rfl ?_
  refine v_rdV X hC (PW.app h_cm h_co) (c_X9_needCase l E x co hs er fa ss k hO gk k0) kvX9_needCase kiX9_needCase kl_X9_101 rfl rfl (As := [.int (zI k)]) rfl rfl rfl dX9_isDecided_2 5 rfl ?_
  show V p l e (rmL 2 0 0) s m args below meth cd Q 2 s.heap [] 0 0 5 [(0, .ref x), (1, .int (zI k))] []
  refine v_aload_n X dX9_isDecided_5 6 rfl 0 rfl ?_
  refine v_getf X hC h_cm inX9 0 rfl rfl 0 (by decide) kf_X9_10 (fun _ h => h) rfl dX9_isDecided_6 9 rfl ?_
  refine v_iconst X dX9_isDecided_9 10 rfl ?_
  refine v_iload_n X dX9_isDecided_10 11 rfl 1 rfl ?_
  refine v_rdV X hC h_co (c_X0_isIn l E (x + 1) co 1 k hO (by omega) (by omega) (by omega)) kvX0_isIn kiX0_isIn kl_X9_118 rfl rfl (As := [.int (zI 1), .int (zI k)]) rfl rfl rfl dX9_isDecided_11 14 rfl ?_
  show V p l e (rmL 2 0 0) s m args below meth cd Q 2 s.heap [] 0 0 14 [(0, .ref x), (1, .int (zI k))] [.int (zI (bz (co 3 k = 1)))]
  subst hQ; exact v_zret0 X hr hlk dX9_isDecided_14 rfl
set_option maxHeartbeats 4000000 in
set_option maxRecDepth 20000 in
theorem x_X9_isDecided_0 (l : Launch) (hl : l.stackTraces = false) (E : Nat → Nat → Nat) (x : Nat) (co : Nat → Int → Int) (hs : Int) (er : Int) (fa : Int) (ss : Int) (k : Int) (hO : OkC co) (gk : Rg k) (nk : ¬ (0 ≤ k ∧ k < co 0 0)) : Tx l yX9_isDecided cX9_isDecided 2 (some .boolean) 7 1 6 E [] [.ref x, .int (zI k)] (fun H => PR E x [(x, .inr (11, [.ref (x + 1), .ref (x + 29), .ref (x + 57), .ref (x + 85), .ref (x + 311), .ref (x + 314), .ref (x + 319), .ref (x + 332), .int (zI hs), .int (zI er), .int (zI fa), .int (zI ss)]))] H ∧ PR E (x + 1) (courtW E (x + 1) co) H) "java/lang/IndexOutOfBoundsException" (fun H => True) := by
  refine Tx.start (own := RX9) rfl (by decide +kernel) (Nat.le_of_ble_eq_true rfl) ?_
  intro p e s m below meth cd args Q hQ X tb hlk hM hPr
  obtain ⟨h_cm, h_co⟩ := hPr
  have hb0 := hO.b0
  have hbw := hO.bw
  refine v_aload_n X dX9_isDecided_0 1 rfl 0 rfl ?_
  refine v_iload_n X dX9_isDecided_1 2 rfl 1 rfl ?_
  subst hQ; exact v_txV X tb hlk hM (h_cm.1) (x_X9_needCase_0 l hl E x co hs er fa ss k hO gk nk) kvX9_needCase kiX9_needCase kl_X9_101 (q0 := 0) rfl rfl (As := [.int (zI k)]) rfl rfl rfl rfl dX9_isDecided_2 (fun q hq => hq.elim) ⟨h_cm, h_co⟩ (fun H1 hF hpo => trivial)
set_option maxHeartbeats 4000000 in
set_option maxRecDepth 20000 in
theorem c_X9_isClosed (l : Launch) (E : Nat → Nat → Nat) (x : Nat) (co : Nat → Int → Int) (hs : Int) (er : Int) (fa : Int) (ss : Int) (k : Int) (hO : OkC co) (gk : Rg k) (k0 : 0 ≤ k ∧ k < co 0 0) : Rd l yX9_isClosed cX9_isClosed 2 (some .boolean) 2 E [.ref x, .int (zI k)] ([(x, .inr (11, [.ref (x + 1), .ref (x + 29), .ref (x + 57), .ref (x + 85), .ref (x + 311), .ref (x + 314), .ref (x + 319), .ref (x + 332), .int (zI hs), .int (zI er), .int (zI fa), .int (zI ss)]))] ++ courtW E (x + 1) co) (some (.int (zI (bz (co 3 k = 2))))) := by
  refine Rd.start (own := RX9) rfl (by decide +kernel) (Nat.le_of_ble_eq_true rfl) ?_
  intro p e s m below meth cd args Q hQ X hr hlk hC hP
  have h_co := PW.right hP
  have h_cm := (PW.left hP)
  have hb0 := hO.b0
  have hbw := hO.bw
  refine v_aload_n X dX9_isClosed_0 1 rfl 0 rfl ?_
  refine v_iload_n X dX9_isClosed_1 2 rfl 1 rfl ?_
  refine v_rdV X hC (PW.app h_cm h_co) (c_X9_needCase l E x co hs er fa ss k hO gk k0) kvX9_needCase kiX9_needCase kl_X9_101 rfl rfl (As := [.int (zI k)]) rfl rfl rfl dX9_isClosed_2 5 rfl ?_
  show V p l e (rmL 2 0 0) s m args below meth cd Q 2 s.heap [] 0 0 5 [(0, .ref x), (1, .int (zI k))] []
  refine v_aload_n X dX9_isClosed_5 6 rfl 0 rfl ?_
  refine v_getf X hC h_cm inX9 0 rfl rfl 0 (by decide) kf_X9_10 (fun _ h => h) rfl dX9_isClosed_6 9 rfl ?_
  refine v_iconst X dX9_isClosed_9 10 rfl ?_
  refine v_iload_n X dX9_isClosed_10 11 rfl 1 rfl ?_
  refine v_rdV X hC h_co (c_X0_isIn l E (x + 1) co 2 k hO (by omega) (by omega) (by omega)) kvX0_isIn kiX0_isIn kl_X9_118 rfl rfl (As := [.int (zI 2), .int (zI k)]) rfl rfl rfl dX9_isClosed_11 14 rfl ?_
  show V p l e (rmL 2 0 0) s m args below meth cd Q 2 s.heap [] 0 0 14 [(0, .ref x), (1, .int (zI k))] [.int (zI (bz (co 3 k = 2)))]
  subst hQ; exact v_zret0 X hr hlk dX9_isClosed_14 rfl
set_option maxHeartbeats 4000000 in
set_option maxRecDepth 20000 in
theorem x_X9_isClosed_0 (l : Launch) (hl : l.stackTraces = false) (E : Nat → Nat → Nat) (x : Nat) (co : Nat → Int → Int) (hs : Int) (er : Int) (fa : Int) (ss : Int) (k : Int) (hO : OkC co) (gk : Rg k) (nk : ¬ (0 ≤ k ∧ k < co 0 0)) : Tx l yX9_isClosed cX9_isClosed 2 (some .boolean) 7 1 6 E [] [.ref x, .int (zI k)] (fun H => PR E x [(x, .inr (11, [.ref (x + 1), .ref (x + 29), .ref (x + 57), .ref (x + 85), .ref (x + 311), .ref (x + 314), .ref (x + 319), .ref (x + 332), .int (zI hs), .int (zI er), .int (zI fa), .int (zI ss)]))] H ∧ PR E (x + 1) (courtW E (x + 1) co) H) "java/lang/IndexOutOfBoundsException" (fun H => True) := by
  refine Tx.start (own := RX9) rfl (by decide +kernel) (Nat.le_of_ble_eq_true rfl) ?_
  intro p e s m below meth cd args Q hQ X tb hlk hM hPr
  obtain ⟨h_cm, h_co⟩ := hPr
  have hb0 := hO.b0
  have hbw := hO.bw
  refine v_aload_n X dX9_isClosed_0 1 rfl 0 rfl ?_
  refine v_iload_n X dX9_isClosed_1 2 rfl 1 rfl ?_
  subst hQ; exact v_txV X tb hlk hM (h_cm.1) (x_X9_needCase_0 l hl E x co hs er fa ss k hO gk nk) kvX9_needCase kiX9_needCase kl_X9_101 (q0 := 0) rfl rfl (As := [.int (zI k)]) rfl rfl rfl rfl dX9_isClosed_2 (fun q hq => hq.elim) ⟨h_cm, h_co⟩ (fun H1 hF hpo => trivial)
set_option maxHeartbeats 4000000 in
set_option maxRecDepth 20000 in
theorem c_X9_isGuilty (l : Launch) (E : Nat → Nat → Nat) (x : Nat) (co : Nat → Int → Int) (hs : Int) (er : Int) (fa : Int) (ss : Int) (k : Int) (hO : OkC co) (gk : Rg k) (k0 : 0 ≤ k ∧ k < co 0 0) (k1 : ¬ co 3 k = 0) : Rd l yX9_isGuilty cX9_isGuilty 2 (some .boolean) 2 E [.ref x, .int (zI k)] ([(x, .inr (11, [.ref (x + 1), .ref (x + 29), .ref (x + 57), .ref (x + 85), .ref (x + 311), .ref (x + 314), .ref (x + 319), .ref (x + 332), .int (zI hs), .int (zI er), .int (zI fa), .int (zI ss)]))] ++ courtW E (x + 1) co) (some (.int (zI (bz (¬ co 4 k = 0))))) := by
  refine Rd.start (own := RX9) rfl (by decide +kernel) (Nat.le_of_ble_eq_true rfl) ?_
  intro p e s m below meth cd args Q hQ X hr hlk hC hP
  have h_co := PW.right hP
  have h_cm := (PW.left hP)
  have hb0 := hO.b0
  have hbw := hO.bw
  refine v_aload_n X dX9_isGuilty_0 1 rfl 0 rfl ?_
  refine v_iload_n X dX9_isGuilty_1 2 rfl 1 rfl ?_
  refine v_rdV X hC (PW.app h_cm h_co) (c_X9_needCase l E x co hs er fa ss k hO gk k0) kvX9_needCase kiX9_needCase kl_X9_101 rfl rfl (As := [.int (zI k)]) rfl rfl rfl dX9_isGuilty_2 5 rfl ?_
  show V p l e (rmL 2 0 0) s m args below meth cd Q 2 s.heap [] 0 0 5 [(0, .ref x), (1, .int (zI k))] []
  refine v_aload_n X dX9_isGuilty_5 6 rfl 0 rfl ?_
  refine v_getf X hC h_cm inX9 0 rfl rfl 0 (by decide) kf_X9_10 (fun _ h => h) rfl dX9_isGuilty_6 9 rfl ?_
  refine v_iconst X dX9_isGuilty_9 10 rfl ?_
  refine v_iload_n X dX9_isGuilty_10 11 rfl 1 rfl ?_
  refine v_rdV X hC h_co (c_X0_isIn l E (x + 1) co 0 k hO (by omega) (by omega) (by omega)) kvX0_isIn kiX0_isIn kl_X9_118 rfl rfl (As := [.int (zI 0), .int (zI k)]) rfl rfl rfl dX9_isGuilty_11 14 rfl ?_
  show V p l e (rmL 2 0 0) s m args below meth cd Q 2 s.heap [] 0 0 14 [(0, .ref x), (1, .int (zI k))] [.int (zI (bz (co 3 k = 0)))]
  refine v_bif_eq X dX9_isGuilty_14 17 27 rfl (by decide) (fun c_1 => ?_) (fun c_1 => ?_)
  · skip
    refine v_aload_n X dX9_isGuilty_27 28 rfl 0 rfl ?_
    refine v_getf X hC h_cm inX9 0 rfl rfl 0 (by decide) kf_X9_10 (fun _ h => h) rfl dX9_isGuilty_28 31 rfl ?_
    refine v_iload_n X dX9_isGuilty_31 32 rfl 1 rfl ?_
    refine v_rdV X hC h_co (c_X0_isFoundGuilty l E (x + 1) co k hO (by omega) (by omega)) kvX0_isFoundGuilty kiX0_isFoundGuilty kl_X9_127 rfl rfl (As := [.int (zI k)]) rfl rfl rfl dX9_isGuilty_32 35 rfl ?_
    show V p l e (rmL 2 0 0) s m args below meth cd Q 2 s.heap [] 0 0 35 [(0, .ref x), (1, .int (zI k))] [.int (zI (bz (¬ co 4 k = 0)))]
    subst hQ; exact v_zret0 X hr hlk dX9_isGuilty_35 rfl
  · skip
    exfalso; omega
set_option maxHeartbeats 4000000 in
set_option maxRecDepth 20000 in
theorem x_X9_isGuilty_0 (l : Launch) (hl : l.stackTraces = false) (E : Nat → Nat → Nat) (x : Nat) (co : Nat → Int → Int) (hs : Int) (er : Int) (fa : Int) (ss : Int) (k : Int) (hO : OkC co) (gk : Rg k) (nk : ¬ (0 ≤ k ∧ k < co 0 0)) : Tx l yX9_isGuilty cX9_isGuilty 2 (some .boolean) 7 1 6 E [] [.ref x, .int (zI k)] (fun H => PR E x [(x, .inr (11, [.ref (x + 1), .ref (x + 29), .ref (x + 57), .ref (x + 85), .ref (x + 311), .ref (x + 314), .ref (x + 319), .ref (x + 332), .int (zI hs), .int (zI er), .int (zI fa), .int (zI ss)]))] H ∧ PR E (x + 1) (courtW E (x + 1) co) H) "java/lang/IndexOutOfBoundsException" (fun H => True) := by
  refine Tx.start (own := RX9) rfl (by decide +kernel) (Nat.le_of_ble_eq_true rfl) ?_
  intro p e s m below meth cd args Q hQ X tb hlk hM hPr
  obtain ⟨h_cm, h_co⟩ := hPr
  have hb0 := hO.b0
  have hbw := hO.bw
  refine v_aload_n X dX9_isGuilty_0 1 rfl 0 rfl ?_
  refine v_iload_n X dX9_isGuilty_1 2 rfl 1 rfl ?_
  subst hQ; exact v_txV X tb hlk hM (h_cm.1) (x_X9_needCase_0 l hl E x co hs er fa ss k hO gk nk) kvX9_needCase kiX9_needCase kl_X9_101 (q0 := 0) rfl rfl (As := [.int (zI k)]) rfl rfl rfl rfl dX9_isGuilty_2 (fun q hq => hq.elim) ⟨h_cm, h_co⟩ (fun H1 hF hpo => trivial)
set_option maxHeartbeats 4000000 in
set_option maxRecDepth 20000 in
theorem x_X9_isGuilty_1 (l : Launch) (hl : l.stackTraces = false) (E : Nat → Nat → Nat) (x : Nat) (co : Nat → Int → Int) (hs : Int) (er : Int) (fa : Int) (ss : Int) (k : Int) (hO : OkC co) (gk : Rg k) (k0 : 0 ≤ k ∧ k < co 0 0) (nk : ¬ (¬ co 3 k = 0)) : Tx l yX9_isGuilty cX9_isGuilty 2 (some .boolean) 6 1 6 E [] [.ref x, .int (zI k)] (fun H => PR E x [(x, .inr (11, [.ref (x + 1), .ref (x + 29), .ref (x + 57), .ref (x + 85), .ref (x + 311), .ref (x + 314), .ref (x + 319), .ref (x + 332), .int (zI hs), .int (zI er), .int (zI fa), .int (zI ss)]))] H ∧ PR E (x + 1) (courtW E (x + 1) co) H) "java/lang/IllegalStateException" (fun H => True) := by
  refine Tx.start (own := RX9) rfl (by decide +kernel) (Nat.le_of_ble_eq_true rfl) ?_
  intro p e s m below meth cd args Q hQ X tb hlk hM hPr
  obtain ⟨h_cm, h_co⟩ := hPr
  have hb0 := hO.b0
  have hbw := hO.bw
  refine v_aload_n X dX9_isGuilty_0 1 rfl 0 rfl ?_
  refine v_iload_n X dX9_isGuilty_1 2 rfl 1 rfl ?_
  refine v_rdV X hM.C (PW.app h_cm.1 h_co.1) (c_X9_needCase l E x co hs er fa ss k hO gk k0) kvX9_needCase kiX9_needCase kl_X9_101 rfl rfl (As := [.int (zI k)]) rfl rfl rfl dX9_isGuilty_2 5 rfl ?_
  show V p l e (rmL 6 1 6) s m args below meth cd Q 2 s.heap [] 0 0 5 [(0, .ref x), (1, .int (zI k))] []
  refine v_aload_n X dX9_isGuilty_5 6 rfl 0 rfl ?_
  refine v_getf X hM.C h_cm.1 inX9 0 rfl rfl 0 (by decide) kf_X9_10 (fun _ h => h) rfl dX9_isGuilty_6 9 rfl ?_
  refine v_iconst X dX9_isGuilty_9 10 rfl ?_
  refine v_iload_n X dX9_isGuilty_10 11 rfl 1 rfl ?_
  refine v_rdV X hM.C h_co.1 (c_X0_isIn l E (x + 1) co 0 k hO (by omega) (by omega) (by omega)) kvX0_isIn kiX0_isIn kl_X9_118 rfl rfl (As := [.int (zI 0), .int (zI k)]) rfl rfl rfl dX9_isGuilty_11 14 rfl ?_
  show V p l e (rmL 6 1 6) s m args below meth cd Q 2 s.heap [] 0 0 14 [(0, .ref x), (1, .int (zI k))] [.int (zI (bz (co 3 k = 0)))]
  refine v_bif_eq X dX9_isGuilty_14 17 27 rfl (by decide) (fun c_1 => ?_) (fun c_1 => ?_)
  · skip
    refine v_aload_n X dX9_isGuilty_27 28 rfl 0 rfl ?_
    refine v_getf X hM.C h_cm.1 inX9 0 rfl rfl 0 (by decide) kf_X9_10 (fun _ h => h) rfl dX9_isGuilty_28 31 rfl ?_
    refine v_iload_n X dX9_isGuilty_31 32 rfl 1 rfl ?_
    refine v_rdV X hM.C h_co.1 (c_X0_isFoundGuilty l E (x + 1) co k hO (by omega) (by omega)) kvX0_isFoundGuilty kiX0_isFoundGuilty kl_X9_127 rfl rfl (As := [.int (zI k)]) rfl rfl rfl dX9_isGuilty_32 35 rfl ?_
    show V p l e (rmL 6 1 6) s m args below meth cd Q 2 s.heap [] 0 0 35 [(0, .ref x), (1, .int (zI k))] [.int (zI (bz (¬ co 4 k = 0)))]
    exfalso; omega
  · skip
    subst hQ; exact v_throw X hl tb hlk hM xt_ISE xk_ISE 14 rfl dX9_isGuilty_17 dX9_isGuilty_20 dX9_isGuilty_21 dX9_isGuilty_23 dX9_isGuilty_26 rfl (fun H1 hF => trivial)
set_option maxHeartbeats 4000000 in
set_option maxRecDepth 20000 in
theorem c_X9_witnessAt (l : Launch) (E : Nat → Nat → Nat) (x : Nat) (co : Nat → Int → Int) (hs : Int) (er : Int) (fa : Int) (ss : Int) (k : Int) (q : Int) (hO : OkC co) (gk : Rg k) (gq : Rg q) (k0 : 0 ≤ k ∧ k < co 0 0) (k1 : 0 ≤ q ∧ q < co 6 k) : Rd l yX9_witnessAt cX9_witnessAt 3 (some .int) 2 E [.ref x, .int (zI k), .int (zI q)] ([(x, .inr (11, [.ref (x + 1), .ref (x + 29), .ref (x + 57), .ref (x + 85), .ref (x + 311), .ref (x + 314), .ref (x + 319), .ref (x + 332), .int (zI hs), .int (zI er), .int (zI fa), .int (zI ss)]))] ++ courtW E (x + 1) co) (some (.int (zI (co 7 (k * 6 + q))))) := by
  refine Rd.start (own := RX9) rfl (by decide +kernel) (Nat.le_of_ble_eq_true rfl) ?_
  intro p e s m below meth cd args Q hQ X hr hlk hC hP
  have h_co := PW.right hP
  have h_cm := (PW.left hP)
  have hb0 := hO.b0
  have hbw := hO.bw
  have hb6 := hO.b6 k
  refine v_aload_n X dX9_witnessAt_0 1 rfl 0 rfl ?_
  refine v_iload_n X dX9_witnessAt_1 2 rfl 1 rfl ?_
  refine v_rdV X hC (PW.app h_cm h_co) (c_X9_needCase l E x co hs er fa ss k hO gk k0) kvX9_needCase kiX9_needCase kl_X9_101 rfl rfl (As := [.int (zI k)]) rfl rfl rfl dX9_witnessAt_2 5 rfl ?_
  show V p l e (rmL 2 0 0) s m args below meth cd Q 3 s.heap [] 0 0 5 [(0, .ref x), (1, .int (zI k)), (2, .int (zI q))] []
  refine v_iload_n X dX9_witnessAt_5 6 rfl 2 rfl ?_
  refine v_if_lt X (by omega) dX9_witnessAt_6 9 24 rfl (by decide) (fun c_1 => ?_) (fun c_1 => ?_)
  · skip
    exfalso; omega
  · skip
    refine v_iload_n X dX9_witnessAt_9 10 rfl 2 rfl ?_
    refine v_aload_n X dX9_witnessAt_10 11 rfl 0 rfl ?_
    refine v_getf X hC h_cm inX9 0 rfl rfl 0 (by decide) kf_X9_10 (fun _ h => h) rfl dX9_witnessAt_11 14 rfl ?_
    refine v_getfN X hC h_co inX0 0 rfl rfl 9 (by decide) kfn_X9_133 (fun _ h => h) rfl dX9_witnessAt_14 17 rfl ?_
    refine v_iload_n X dX9_witnessAt_17 18 rfl 1 rfl ?_
    refine v_rdV X hC (PW.part h_co 11 2 (wc := rowW E (x + 12) 16 (co 6)) rfl) (c_X6_get l E (x + 12) 16 (co 6) k (by omega) (by omega) (by omega)) kvX6_get kiX6_get kl_X9_109 rfl rfl (As := [.int (zI k)]) rfl rfl rfl dX9_witnessAt_18 21 rfl ?_
    show V p l e (rmL 2 0 0) s m args below meth cd Q 3 s.heap [] 0 0 21 [(0, .ref x), (1, .int (zI k)), (2, .int (zI q))] [.int (zI (co 6 k)), .int (zI q)]
    have hb_2 := hO.b6 k
    refine v_icmp_lt X (by omega) (by omega) dX9_witnessAt_21 24 34 rfl (by decide) (fun c_3 => ?_) (fun c_3 => ?_)
    · skip
      refine v_aload_n X dX9_witnessAt_34 35 rfl 0 rfl ?_
      refine v_getf X hC h_cm inX9 0 rfl rfl 0 (by decide) kf_X9_10 (fun _ h => h) rfl dX9_witnessAt_35 38 rfl ?_
      refine v_iload_n X dX9_witnessAt_38 39 rfl 1 rfl ?_
      refine v_iload_n X dX9_witnessAt_39 40 rfl 2 rfl ?_
      refine v_rdV X hC h_co (c_X0_witnessHeardAt l E (x + 1) co k q (by omega) (by omega) (by omega) (by omega)) kvX0_witnessHeardAt kiX0_witnessHeardAt kl_X9_138 rfl rfl (As := [.int (zI k), .int (zI q)]) rfl rfl rfl dX9_witnessAt_40 43 rfl ?_
      show V p l e (rmL 2 0 0) s m args below meth cd Q 3 s.heap [] 0 0 43 [(0, .ref x), (1, .int (zI k)), (2, .int (zI q))] [.int (zI (co 7 (k * 6 + q)))]
      have hb_4 := hO.b7 (k * 6 + q)
      subst hQ; exact v_iret0 X hr hlk dX9_witnessAt_43 rfl
    · skip
      exfalso; omega
set_option maxHeartbeats 4000000 in
set_option maxRecDepth 20000 in
theorem x_X9_witnessAt_0 (l : Launch) (hl : l.stackTraces = false) (E : Nat → Nat → Nat) (x : Nat) (co : Nat → Int → Int) (hs : Int) (er : Int) (fa : Int) (ss : Int) (k : Int) (q : Int) (hO : OkC co) (gk : Rg k) (gq : Rg q) (nk : ¬ (0 ≤ k ∧ k < co 0 0)) : Tx l yX9_witnessAt cX9_witnessAt 3 (some .int) 7 1 6 E [] [.ref x, .int (zI k), .int (zI q)] (fun H => PR E x [(x, .inr (11, [.ref (x + 1), .ref (x + 29), .ref (x + 57), .ref (x + 85), .ref (x + 311), .ref (x + 314), .ref (x + 319), .ref (x + 332), .int (zI hs), .int (zI er), .int (zI fa), .int (zI ss)]))] H ∧ PR E (x + 1) (courtW E (x + 1) co) H) "java/lang/IndexOutOfBoundsException" (fun H => True) := by
  refine Tx.start (own := RX9) rfl (by decide +kernel) (Nat.le_of_ble_eq_true rfl) ?_
  intro p e s m below meth cd args Q hQ X tb hlk hM hPr
  obtain ⟨h_cm, h_co⟩ := hPr
  have hb0 := hO.b0
  have hbw := hO.bw
  have hb6 := hO.b6 k
  refine v_aload_n X dX9_witnessAt_0 1 rfl 0 rfl ?_
  refine v_iload_n X dX9_witnessAt_1 2 rfl 1 rfl ?_
  subst hQ; exact v_txV X tb hlk hM (h_cm.1) (x_X9_needCase_0 l hl E x co hs er fa ss k hO gk nk) kvX9_needCase kiX9_needCase kl_X9_101 (q0 := 0) rfl rfl (As := [.int (zI k)]) rfl rfl rfl rfl dX9_witnessAt_2 (fun q hq => hq.elim) ⟨h_cm, h_co⟩ (fun H1 hF hpo => trivial)
set_option maxHeartbeats 4000000 in
set_option maxRecDepth 20000 in
theorem x_X9_witnessAt_1 (l : Launch) (hl : l.stackTraces = false) (E : Nat → Nat → Nat) (x : Nat) (co : Nat → Int → Int) (hs : Int) (er : Int) (fa : Int) (ss : Int) (k : Int) (q : Int) (hO : OkC co) (gk : Rg k) (gq : Rg q) (k0 : 0 ≤ k ∧ k < co 0 0) (nk : ¬ (0 ≤ q ∧ q < co 6 k)) : Tx l yX9_witnessAt cX9_witnessAt 3 (some .int) 6 1 6 E [] [.ref x, .int (zI k), .int (zI q)] (fun H => PR E x [(x, .inr (11, [.ref (x + 1), .ref (x + 29), .ref (x + 57), .ref (x + 85), .ref (x + 311), .ref (x + 314), .ref (x + 319), .ref (x + 332), .int (zI hs), .int (zI er), .int (zI fa), .int (zI ss)]))] H ∧ PR E (x + 1) (courtW E (x + 1) co) H) "java/util/NoSuchElementException" (fun H => True) := by
  refine Tx.start (own := RX9) rfl (by decide +kernel) (Nat.le_of_ble_eq_true rfl) ?_
  intro p e s m below meth cd args Q hQ X tb hlk hM hPr
  obtain ⟨h_cm, h_co⟩ := hPr
  have hb0 := hO.b0
  have hbw := hO.bw
  have hb6 := hO.b6 k
  refine v_aload_n X dX9_witnessAt_0 1 rfl 0 rfl ?_
  refine v_iload_n X dX9_witnessAt_1 2 rfl 1 rfl ?_
  refine v_rdV X hM.C (PW.app h_cm.1 h_co.1) (c_X9_needCase l E x co hs er fa ss k hO gk k0) kvX9_needCase kiX9_needCase kl_X9_101 rfl rfl (As := [.int (zI k)]) rfl rfl rfl dX9_witnessAt_2 5 rfl ?_
  show V p l e (rmL 6 1 6) s m args below meth cd Q 3 s.heap [] 0 0 5 [(0, .ref x), (1, .int (zI k)), (2, .int (zI q))] []
  refine v_iload_n X dX9_witnessAt_5 6 rfl 2 rfl ?_
  refine v_if_lt X (by omega) dX9_witnessAt_6 9 24 rfl (by decide) (fun c_1 => ?_) (fun c_1 => ?_)
  · skip
    subst hQ; exact v_throw X hl tb hlk hM xt_NSE xk_NSE 15 rfl dX9_witnessAt_24 dX9_witnessAt_27 dX9_witnessAt_28 dX9_witnessAt_30 dX9_witnessAt_33 rfl (fun H1 hF => trivial)
  · skip
    refine v_iload_n X dX9_witnessAt_9 10 rfl 2 rfl ?_
    refine v_aload_n X dX9_witnessAt_10 11 rfl 0 rfl ?_
    refine v_getf X hM.C h_cm.1 inX9 0 rfl rfl 0 (by decide) kf_X9_10 (fun _ h => h) rfl dX9_witnessAt_11 14 rfl ?_
    refine v_getfN X hM.C h_co.1 inX0 0 rfl rfl 9 (by decide) kfn_X9_133 (fun _ h => h) rfl dX9_witnessAt_14 17 rfl ?_
    refine v_iload_n X dX9_witnessAt_17 18 rfl 1 rfl ?_
    refine v_rdV X hM.C (PW.part h_co.1 11 2 (wc := rowW E (x + 12) 16 (co 6)) rfl) (c_X6_get l E (x + 12) 16 (co 6) k (by omega) (by omega) (by omega)) kvX6_get kiX6_get kl_X9_109 rfl rfl (As := [.int (zI k)]) rfl rfl rfl dX9_witnessAt_18 21 rfl ?_
    show V p l e (rmL 6 1 6) s m args below meth cd Q 3 s.heap [] 0 0 21 [(0, .ref x), (1, .int (zI k)), (2, .int (zI q))] [.int (zI (co 6 k)), .int (zI q)]
    have hb_2 := hO.b6 k
    refine v_icmp_lt X (by omega) (by omega) dX9_witnessAt_21 24 34 rfl (by decide) (fun c_3 => ?_) (fun c_3 => ?_)
    · skip
      refine v_aload_n X dX9_witnessAt_34 35 rfl 0 rfl ?_
      refine v_getf X hM.C h_cm.1 inX9 0 rfl rfl 0 (by decide) kf_X9_10 (fun _ h => h) rfl dX9_witnessAt_35 38 rfl ?_
      refine v_iload_n X dX9_witnessAt_38 39 rfl 1 rfl ?_
      refine v_iload_n X dX9_witnessAt_39 40 rfl 2 rfl ?_
      refine v_rdV X hM.C h_co.1 (c_X0_witnessHeardAt l E (x + 1) co k q (by omega) (by omega) (by omega) (by omega)) kvX0_witnessHeardAt kiX0_witnessHeardAt kl_X9_138 rfl rfl (As := [.int (zI k), .int (zI q)]) rfl rfl rfl dX9_witnessAt_40 43 rfl ?_
      show V p l e (rmL 6 1 6) s m args below meth cd Q 3 s.heap [] 0 0 43 [(0, .ref x), (1, .int (zI k)), (2, .int (zI q))] [.int (zI (co 7 (k * 6 + q)))]
      have hb_4 := hO.b7 (k * 6 + q)
      exfalso; omega
    · skip
      subst hQ; exact v_throw X hl tb hlk hM xt_NSE xk_NSE 15 rfl dX9_witnessAt_24 dX9_witnessAt_27 dX9_witnessAt_28 dX9_witnessAt_30 dX9_witnessAt_33 rfl (fun H1 hF => trivial)
set_option maxHeartbeats 4000000 in
set_option maxRecDepth 20000 in
theorem c_X9_hasTestified (l : Launch) (E : Nat → Nat → Nat) (x : Nat) (co : Nat → Int → Int) (hs : Int) (er : Int) (fa : Int) (ss : Int) (k : Int) (w : Int) (hO : OkC co) (gk : Rg k) (gw : Rg w) (k0 : 0 ≤ k ∧ k < co 0 0) (k1 : 0 ≤ w ∧ w < co 0 1) : Rd l yX9_hasTestified cX9_hasTestified 3 (some .boolean) 2 E [.ref x, .int (zI k), .int (zI w)] ([(x, .inr (11, [.ref (x + 1), .ref (x + 29), .ref (x + 57), .ref (x + 85), .ref (x + 311), .ref (x + 314), .ref (x + 319), .ref (x + 332), .int (zI hs), .int (zI er), .int (zI fa), .int (zI ss)]))] ++ courtW E (x + 1) co) (some (.int (zI (bz (0 < co 9 (k * 8 + w)))))) := by
  refine Rd.start (own := RX9) rfl (by decide +kernel) (Nat.le_of_ble_eq_true rfl) ?_
  intro p e s m below meth cd args Q hQ X hr hlk hC hP
  have h_co := PW.right hP
  have h_cm := (PW.left hP)
  have hb0 := hO.b0
  have hbw := hO.bw
  refine v_aload_n X dX9_hasTestified_0 1 rfl 0 rfl ?_
  refine v_iload_n X dX9_hasTestified_1 2 rfl 1 rfl ?_
  refine v_rdV X hC (PW.app h_cm h_co) (c_X9_needCase l E x co hs er fa ss k hO gk k0) kvX9_needCase kiX9_needCase kl_X9_101 rfl rfl (As := [.int (zI k)]) rfl rfl rfl dX9_hasTestified_2 5 rfl ?_
  show V p l e (rmL 2 0 0) s m args below meth cd Q 3 s.heap [] 0 0 5 [(0, .ref x), (1, .int (zI k)), (2, .int (zI w))] []
  refine v_aload_n X dX9_hasTestified_5 6 rfl 0 rfl ?_
  refine v_iload_n X dX9_hasTestified_6 7 rfl 2 rfl ?_
  refine v_rdV X hC (PW.app h_cm h_co) (c_X9_needWitness l E x co hs er fa ss w hO gw k1) kvX9_needWitness kiX9_needWitness kl_X9_141 rfl rfl (As := [.int (zI w)]) rfl rfl rfl dX9_hasTestified_7 10 rfl ?_
  show V p l e (rmL 2 0 0) s m args below meth cd Q 3 s.heap [] 0 0 10 [(0, .ref x), (1, .int (zI k)), (2, .int (zI w))] []
  refine v_aload_n X dX9_hasTestified_10 11 rfl 0 rfl ?_
  refine v_getf X hC h_cm inX9 0 rfl rfl 0 (by decide) kf_X9_10 (fun _ h => h) rfl dX9_hasTestified_11 14 rfl ?_
  refine v_iload_n X dX9_hasTestified_14 15 rfl 1 rfl ?_
  refine v_iload_n X dX9_hasTestified_15 16 rfl 2 rfl ?_
  refine v_rdV X hC h_co (c_X0_hasHeard l E (x + 1) co k w hO (by omega) (by omega) (by omega) (by omega)) kvX0_hasHeard kiX0_hasHeard kl_X9_144 rfl rfl (As := [.int (zI k), .int (zI w)]) rfl rfl rfl dX9_hasTestified_16 19 rfl ?_
  show V p l e (rmL 2 0 0) s m args below meth cd Q 3 s.heap [] 0 0 19 [(0, .ref x), (1, .int (zI k)), (2, .int (zI w))] [.int (zI (bz (0 < co 9 (k * 8 + w))))]
  subst hQ; exact v_zret0 X hr hlk dX9_hasTestified_19 rfl
set_option maxHeartbeats 4000000 in
set_option maxRecDepth 20000 in
theorem x_X9_hasTestified_0 (l : Launch) (hl : l.stackTraces = false) (E : Nat → Nat → Nat) (x : Nat) (co : Nat → Int → Int) (hs : Int) (er : Int) (fa : Int) (ss : Int) (k : Int) (w : Int) (hO : OkC co) (gk : Rg k) (gw : Rg w) (nk : ¬ (0 ≤ k ∧ k < co 0 0)) : Tx l yX9_hasTestified cX9_hasTestified 3 (some .boolean) 7 1 6 E [] [.ref x, .int (zI k), .int (zI w)] (fun H => PR E x [(x, .inr (11, [.ref (x + 1), .ref (x + 29), .ref (x + 57), .ref (x + 85), .ref (x + 311), .ref (x + 314), .ref (x + 319), .ref (x + 332), .int (zI hs), .int (zI er), .int (zI fa), .int (zI ss)]))] H ∧ PR E (x + 1) (courtW E (x + 1) co) H) "java/lang/IndexOutOfBoundsException" (fun H => True) := by
  refine Tx.start (own := RX9) rfl (by decide +kernel) (Nat.le_of_ble_eq_true rfl) ?_
  intro p e s m below meth cd args Q hQ X tb hlk hM hPr
  obtain ⟨h_cm, h_co⟩ := hPr
  have hb0 := hO.b0
  have hbw := hO.bw
  refine v_aload_n X dX9_hasTestified_0 1 rfl 0 rfl ?_
  refine v_iload_n X dX9_hasTestified_1 2 rfl 1 rfl ?_
  subst hQ; exact v_txV X tb hlk hM (h_cm.1) (x_X9_needCase_0 l hl E x co hs er fa ss k hO gk nk) kvX9_needCase kiX9_needCase kl_X9_101 (q0 := 0) rfl rfl (As := [.int (zI k)]) rfl rfl rfl rfl dX9_hasTestified_2 (fun q hq => hq.elim) ⟨h_cm, h_co⟩ (fun H1 hF hpo => trivial)
set_option maxHeartbeats 4000000 in
set_option maxRecDepth 20000 in
theorem x_X9_hasTestified_1 (l : Launch) (hl : l.stackTraces = false) (E : Nat → Nat → Nat) (x : Nat) (co : Nat → Int → Int) (hs : Int) (er : Int) (fa : Int) (ss : Int) (k : Int) (w : Int) (hO : OkC co) (gk : Rg k) (gw : Rg w) (k0 : 0 ≤ k ∧ k < co 0 0) (nk : ¬ (0 ≤ w ∧ w < co 0 1)) : Tx l yX9_hasTestified cX9_hasTestified 3 (some .boolean) 7 1 6 E [] [.ref x, .int (zI k), .int (zI w)] (fun H => PR E x [(x, .inr (11, [.ref (x + 1), .ref (x + 29), .ref (x + 57), .ref (x + 85), .ref (x + 311), .ref (x + 314), .ref (x + 319), .ref (x + 332), .int (zI hs), .int (zI er), .int (zI fa), .int (zI ss)]))] H ∧ PR E (x + 1) (courtW E (x + 1) co) H) "java/lang/IndexOutOfBoundsException" (fun H => True) := by
  refine Tx.start (own := RX9) rfl (by decide +kernel) (Nat.le_of_ble_eq_true rfl) ?_
  intro p e s m below meth cd args Q hQ X tb hlk hM hPr
  obtain ⟨h_cm, h_co⟩ := hPr
  have hb0 := hO.b0
  have hbw := hO.bw
  refine v_aload_n X dX9_hasTestified_0 1 rfl 0 rfl ?_
  refine v_iload_n X dX9_hasTestified_1 2 rfl 1 rfl ?_
  refine v_rdV X hM.C (PW.app h_cm.1 h_co.1) (c_X9_needCase l E x co hs er fa ss k hO gk k0) kvX9_needCase kiX9_needCase kl_X9_101 rfl rfl (As := [.int (zI k)]) rfl rfl rfl dX9_hasTestified_2 5 rfl ?_
  show V p l e (rmL 7 1 6) s m args below meth cd Q 3 s.heap [] 0 0 5 [(0, .ref x), (1, .int (zI k)), (2, .int (zI w))] []
  refine v_aload_n X dX9_hasTestified_5 6 rfl 0 rfl ?_
  refine v_iload_n X dX9_hasTestified_6 7 rfl 2 rfl ?_
  subst hQ; exact v_txV X tb hlk hM (h_cm.1) (x_X9_needWitness_0 l hl E x co hs er fa ss w hO gw nk) kvX9_needWitness kiX9_needWitness kl_X9_141 (q0 := 0) rfl rfl (As := [.int (zI w)]) rfl rfl rfl rfl dX9_hasTestified_7 (fun q hq => hq.elim) ⟨h_cm, h_co⟩ (fun H1 hF hpo => trivial)
set_option maxHeartbeats 4000000 in
set_option maxRecDepth 20000 in
theorem c_X9_isForProsecution (l : Launch) (E : Nat → Nat → Nat) (x : Nat) (co : Nat → Int → Int) (hs : Int) (er : Int) (fa : Int) (ss : Int) (k : Int) (w : Int) (hO : OkC co) (gk : Rg k) (gw : Rg w) (k0 : 0 ≤ k ∧ k < co 0 0) (k1 : 0 ≤ w ∧ w < co 0 1) (k2 : 0 < co 9 (k * 8 + w)) : Rd l yX9_isForProsecution cX9_isForProsecution 3 (some .boolean) 3 E [.ref x, .int (zI k), .int (zI w)] ([(x, .inr (11, [.ref (x + 1), .ref (x + 29), .ref (x + 57), .ref (x + 85), .ref (x + 311), .ref (x + 314), .ref (x + 319), .ref (x + 332), .int (zI hs), .int (zI er), .int (zI fa), .int (zI ss)]))] ++ courtW E (x + 1) co) (some (.int (zI (bz (0 < co 8 (k * 8 + w)))))) := by
  refine Rd.start (own := RX9) rfl (by decide +kernel) (Nat.le_of_ble_eq_true rfl) ?_
  intro p e s m below meth cd args Q hQ X hr hlk hC hP
  have h_co := PW.right hP
  have h_cm := (PW.left hP)
  have hb0 := hO.b0
  have hbw := hO.bw
  refine v_aload_n X dX9_isForProsecution_0 1 rfl 0 rfl ?_
  refine v_iload_n X dX9_isForProsecution_1 2 rfl 1 rfl ?_
  refine v_iload_n X dX9_isForProsecution_2 3 rfl 2 rfl ?_
  refine v_rdV X hC (PW.app h_cm h_co) (c_X9_needTestimony l E x co hs er fa ss k w hO gk gw k0 k1 k2) kvX9_needTestimony kiX9_needTestimony kl_X9_147 rfl rfl (As := [.int (zI k), .int (zI w)]) rfl rfl rfl dX9_isForProsecution_3 6 rfl ?_
  show V p l e (rmL 3 0 0) s m args below meth cd Q 3 s.heap [] 0 0 6 [(0, .ref x), (1, .int (zI k)), (2, .int (zI w))] []
  refine v_aload_n X dX9_isForProsecution_6 7 rfl 0 rfl ?_
  refine v_getf X hC h_cm inX9 0 rfl rfl 0 (by decide) kf_X9_10 (fun _ h => h) rfl dX9_isForProsecution_7 10 rfl ?_
  refine v_iload_n X dX9_isForProsecution_10 11 rfl 1 rfl ?_
  refine v_iload_n X dX9_isForProsecution_11 12 rfl 2 rfl ?_
  refine v_rdV X hC h_co (c_X0_sideOf l E (x + 1) co k w (by omega) (by omega) (by omega) (by omega)) kvX0_sideOf kiX0_sideOf kl_X9_151 rfl rfl (As := [.int (zI k), .int (zI w)]) rfl rfl rfl dX9_isForProsecution_12 15 rfl ?_
  show V p l e (rmL 3 0 0) s m args below meth cd Q 3 s.heap [] 0 0 15 [(0, .ref x), (1, .int (zI k)), (2, .int (zI w))] [.int (zI (co 8 (k * 8 + w)))]
  have hb_1 := hO.b8 (k * 8 + w)
  refine v_if_le X (by omega) dX9_isForProsecution_15 18 22 rfl (by decide) (fun c_2 => ?_) (fun c_2 => ?_)
  · skip
    refine v_iconst X dX9_isForProsecution_22 23 rfl ?_
    subst hQ; exact v_zret0 X hr hlk dX9_isForProsecution_23 (bz_f (by omega))
  · skip
    refine v_iconst X dX9_isForProsecution_18 19 rfl ?_
    refine v_goto X dX9_isForProsecution_19 23 (by decide) ?_
    subst hQ; exact v_zret0 X hr hlk dX9_isForProsecution_23 (bz_t (by omega))
set_option maxHeartbeats 4000000 in
set_option maxRecDepth 20000 in
theorem x_X9_isForProsecution_0 (l : Launch) (hl : l.stackTraces = false) (E : Nat → Nat → Nat) (x : Nat) (co : Nat → Int → Int) (hs : Int) (er : Int) (fa : Int) (ss : Int) (k : Int) (w : Int) (hO : OkC co) (gk : Rg k) (gw : Rg w) (nk : ¬ (0 ≤ k ∧ k < co 0 0)) : Tx l yX9_isForProsecution cX9_isForProsecution 3 (some .boolean) 8 1 6 E [] [.ref x, .int (zI k), .int (zI w)] (fun H => PR E x [(x, .inr (11, [.ref (x + 1), .ref (x + 29), .ref (x + 57), .ref (x + 85), .ref (x + 311), .ref (x + 314), .ref (x + 319), .ref (x + 332), .int (zI hs), .int (zI er), .int (zI fa), .int (zI ss)]))] H ∧ PR E (x + 1) (courtW E (x + 1) co) H) "java/lang/IndexOutOfBoundsException" (fun H => True) := by
  refine Tx.start (own := RX9) rfl (by decide +kernel) (Nat.le_of_ble_eq_true rfl) ?_
  intro p e s m below meth cd args Q hQ X tb hlk hM hPr
  obtain ⟨h_cm, h_co⟩ := hPr
  have hb0 := hO.b0
  have hbw := hO.bw
  refine v_aload_n X dX9_isForProsecution_0 1 rfl 0 rfl ?_
  refine v_iload_n X dX9_isForProsecution_1 2 rfl 1 rfl ?_
  refine v_iload_n X dX9_isForProsecution_2 3 rfl 2 rfl ?_
  subst hQ; exact v_txV X tb hlk hM (h_cm.1) (x_X9_needTestimony_0 l hl E x co hs er fa ss k w hO gk gw nk) kvX9_needTestimony kiX9_needTestimony kl_X9_147 (q0 := 0) rfl rfl (As := [.int (zI k), .int (zI w)]) rfl rfl rfl rfl dX9_isForProsecution_3 (fun q hq => hq.elim) ⟨h_cm, h_co⟩ (fun H1 hF hpo => trivial)
set_option maxHeartbeats 4000000 in
set_option maxRecDepth 20000 in
theorem x_X9_isForProsecution_1 (l : Launch) (hl : l.stackTraces = false) (E : Nat → Nat → Nat) (x : Nat) (co : Nat → Int → Int) (hs : Int) (er : Int) (fa : Int) (ss : Int) (k : Int) (w : Int) (hO : OkC co) (gk : Rg k) (gw : Rg w) (k0 : 0 ≤ k ∧ k < co 0 0) (nk : ¬ (0 ≤ w ∧ w < co 0 1)) : Tx l yX9_isForProsecution cX9_isForProsecution 3 (some .boolean) 8 1 6 E [] [.ref x, .int (zI k), .int (zI w)] (fun H => PR E x [(x, .inr (11, [.ref (x + 1), .ref (x + 29), .ref (x + 57), .ref (x + 85), .ref (x + 311), .ref (x + 314), .ref (x + 319), .ref (x + 332), .int (zI hs), .int (zI er), .int (zI fa), .int (zI ss)]))] H ∧ PR E (x + 1) (courtW E (x + 1) co) H) "java/lang/IndexOutOfBoundsException" (fun H => True) := by
  refine Tx.start (own := RX9) rfl (by decide +kernel) (Nat.le_of_ble_eq_true rfl) ?_
  intro p e s m below meth cd args Q hQ X tb hlk hM hPr
  obtain ⟨h_cm, h_co⟩ := hPr
  have hb0 := hO.b0
  have hbw := hO.bw
  refine v_aload_n X dX9_isForProsecution_0 1 rfl 0 rfl ?_
  refine v_iload_n X dX9_isForProsecution_1 2 rfl 1 rfl ?_
  refine v_iload_n X dX9_isForProsecution_2 3 rfl 2 rfl ?_
  subst hQ; exact v_txV X tb hlk hM (h_cm.1) (x_X9_needTestimony_1 l hl E x co hs er fa ss k w hO gk gw k0 nk) kvX9_needTestimony kiX9_needTestimony kl_X9_147 (q0 := 0) rfl rfl (As := [.int (zI k), .int (zI w)]) rfl rfl rfl rfl dX9_isForProsecution_3 (fun q hq => hq.elim) ⟨h_cm, h_co⟩ (fun H1 hF hpo => trivial)
set_option maxHeartbeats 4000000 in
set_option maxRecDepth 20000 in
theorem x_X9_isForProsecution_2 (l : Launch) (hl : l.stackTraces = false) (E : Nat → Nat → Nat) (x : Nat) (co : Nat → Int → Int) (hs : Int) (er : Int) (fa : Int) (ss : Int) (k : Int) (w : Int) (hO : OkC co) (gk : Rg k) (gw : Rg w) (k0 : 0 ≤ k ∧ k < co 0 0) (k1 : 0 ≤ w ∧ w < co 0 1) (nk : ¬ (0 < co 9 (k * 8 + w))) : Tx l yX9_isForProsecution cX9_isForProsecution 3 (some .boolean) 7 1 6 E [] [.ref x, .int (zI k), .int (zI w)] (fun H => PR E x [(x, .inr (11, [.ref (x + 1), .ref (x + 29), .ref (x + 57), .ref (x + 85), .ref (x + 311), .ref (x + 314), .ref (x + 319), .ref (x + 332), .int (zI hs), .int (zI er), .int (zI fa), .int (zI ss)]))] H ∧ PR E (x + 1) (courtW E (x + 1) co) H) "java/util/NoSuchElementException" (fun H => True) := by
  refine Tx.start (own := RX9) rfl (by decide +kernel) (Nat.le_of_ble_eq_true rfl) ?_
  intro p e s m below meth cd args Q hQ X tb hlk hM hPr
  obtain ⟨h_cm, h_co⟩ := hPr
  have hb0 := hO.b0
  have hbw := hO.bw
  refine v_aload_n X dX9_isForProsecution_0 1 rfl 0 rfl ?_
  refine v_iload_n X dX9_isForProsecution_1 2 rfl 1 rfl ?_
  refine v_iload_n X dX9_isForProsecution_2 3 rfl 2 rfl ?_
  subst hQ; exact v_txV X tb hlk hM (h_cm.1) (x_X9_needTestimony_2 l hl E x co hs er fa ss k w hO gk gw k0 k1 nk) kvX9_needTestimony kiX9_needTestimony kl_X9_147 (q0 := 0) rfl rfl (As := [.int (zI k), .int (zI w)]) rfl rfl rfl rfl dX9_isForProsecution_3 (fun q hq => hq.elim) ⟨h_cm, h_co⟩ (fun H1 hF hpo => trivial)
set_option maxHeartbeats 4000000 in
set_option maxRecDepth 20000 in
theorem c_X9_strength (l : Launch) (E : Nat → Nat → Nat) (x : Nat) (co : Nat → Int → Int) (hs : Int) (er : Int) (fa : Int) (ss : Int) (k : Int) (w : Int) (hO : OkC co) (gk : Rg k) (gw : Rg w) (k0 : 0 ≤ k ∧ k < co 0 0) (k1 : 0 ≤ w ∧ w < co 0 1) (k2 : 0 < co 9 (k * 8 + w)) : Rd l yX9_strength cX9_strength 3 (some .int) 3 E [.ref x, .int (zI k), .int (zI w)] ([(x, .inr (11, [.ref (x + 1), .ref (x + 29), .ref (x + 57), .ref (x + 85), .ref (x + 311), .ref (x + 314), .ref (x + 319), .ref (x + 332), .int (zI hs), .int (zI er), .int (zI fa), .int (zI ss)]))] ++ courtW E (x + 1) co) (some (.int (zI (co 9 (k * 8 + w))))) := by
  refine Rd.start (own := RX9) rfl (by decide +kernel) (Nat.le_of_ble_eq_true rfl) ?_
  intro p e s m below meth cd args Q hQ X hr hlk hC hP
  have h_co := PW.right hP
  have h_cm := (PW.left hP)
  have hb0 := hO.b0
  have hbw := hO.bw
  refine v_aload_n X dX9_strength_0 1 rfl 0 rfl ?_
  refine v_iload_n X dX9_strength_1 2 rfl 1 rfl ?_
  refine v_iload_n X dX9_strength_2 3 rfl 2 rfl ?_
  refine v_rdV X hC (PW.app h_cm h_co) (c_X9_needTestimony l E x co hs er fa ss k w hO gk gw k0 k1 k2) kvX9_needTestimony kiX9_needTestimony kl_X9_147 rfl rfl (As := [.int (zI k), .int (zI w)]) rfl rfl rfl dX9_strength_3 6 rfl ?_
  show V p l e (rmL 3 0 0) s m args below meth cd Q 3 s.heap [] 0 0 6 [(0, .ref x), (1, .int (zI k)), (2, .int (zI w))] []
  refine v_aload_n X dX9_strength_6 7 rfl 0 rfl ?_
  refine v_getf X hC h_cm inX9 0 rfl rfl 0 (by decide) kf_X9_10 (fun _ h => h) rfl dX9_strength_7 10 rfl ?_
  refine v_iload_n X dX9_strength_10 11 rfl 1 rfl ?_
  refine v_iload_n X dX9_strength_11 12 rfl 2 rfl ?_
  refine v_rdV X hC h_co (c_X0_strengthOf l E (x + 1) co k w (by omega) (by omega) (by omega) (by omega)) kvX0_strengthOf kiX0_strengthOf kl_X9_154 rfl rfl (As := [.int (zI k), .int (zI w)]) rfl rfl rfl dX9_strength_12 15 rfl ?_
  show V p l e (rmL 3 0 0) s m args below meth cd Q 3 s.heap [] 0 0 15 [(0, .ref x), (1, .int (zI k)), (2, .int (zI w))] [.int (zI (co 9 (k * 8 + w)))]
  have hb_1 := hO.b9 (k * 8 + w)
  subst hQ; exact v_iret0 X hr hlk dX9_strength_15 rfl
set_option maxHeartbeats 4000000 in
set_option maxRecDepth 20000 in
theorem x_X9_strength_0 (l : Launch) (hl : l.stackTraces = false) (E : Nat → Nat → Nat) (x : Nat) (co : Nat → Int → Int) (hs : Int) (er : Int) (fa : Int) (ss : Int) (k : Int) (w : Int) (hO : OkC co) (gk : Rg k) (gw : Rg w) (nk : ¬ (0 ≤ k ∧ k < co 0 0)) : Tx l yX9_strength cX9_strength 3 (some .int) 8 1 6 E [] [.ref x, .int (zI k), .int (zI w)] (fun H => PR E x [(x, .inr (11, [.ref (x + 1), .ref (x + 29), .ref (x + 57), .ref (x + 85), .ref (x + 311), .ref (x + 314), .ref (x + 319), .ref (x + 332), .int (zI hs), .int (zI er), .int (zI fa), .int (zI ss)]))] H ∧ PR E (x + 1) (courtW E (x + 1) co) H) "java/lang/IndexOutOfBoundsException" (fun H => True) := by
  refine Tx.start (own := RX9) rfl (by decide +kernel) (Nat.le_of_ble_eq_true rfl) ?_
  intro p e s m below meth cd args Q hQ X tb hlk hM hPr
  obtain ⟨h_cm, h_co⟩ := hPr
  have hb0 := hO.b0
  have hbw := hO.bw
  refine v_aload_n X dX9_strength_0 1 rfl 0 rfl ?_
  refine v_iload_n X dX9_strength_1 2 rfl 1 rfl ?_
  refine v_iload_n X dX9_strength_2 3 rfl 2 rfl ?_
  subst hQ; exact v_txV X tb hlk hM (h_cm.1) (x_X9_needTestimony_0 l hl E x co hs er fa ss k w hO gk gw nk) kvX9_needTestimony kiX9_needTestimony kl_X9_147 (q0 := 0) rfl rfl (As := [.int (zI k), .int (zI w)]) rfl rfl rfl rfl dX9_strength_3 (fun q hq => hq.elim) ⟨h_cm, h_co⟩ (fun H1 hF hpo => trivial)
set_option maxHeartbeats 4000000 in
set_option maxRecDepth 20000 in
theorem x_X9_strength_1 (l : Launch) (hl : l.stackTraces = false) (E : Nat → Nat → Nat) (x : Nat) (co : Nat → Int → Int) (hs : Int) (er : Int) (fa : Int) (ss : Int) (k : Int) (w : Int) (hO : OkC co) (gk : Rg k) (gw : Rg w) (k0 : 0 ≤ k ∧ k < co 0 0) (nk : ¬ (0 ≤ w ∧ w < co 0 1)) : Tx l yX9_strength cX9_strength 3 (some .int) 8 1 6 E [] [.ref x, .int (zI k), .int (zI w)] (fun H => PR E x [(x, .inr (11, [.ref (x + 1), .ref (x + 29), .ref (x + 57), .ref (x + 85), .ref (x + 311), .ref (x + 314), .ref (x + 319), .ref (x + 332), .int (zI hs), .int (zI er), .int (zI fa), .int (zI ss)]))] H ∧ PR E (x + 1) (courtW E (x + 1) co) H) "java/lang/IndexOutOfBoundsException" (fun H => True) := by
  refine Tx.start (own := RX9) rfl (by decide +kernel) (Nat.le_of_ble_eq_true rfl) ?_
  intro p e s m below meth cd args Q hQ X tb hlk hM hPr
  obtain ⟨h_cm, h_co⟩ := hPr
  have hb0 := hO.b0
  have hbw := hO.bw
  refine v_aload_n X dX9_strength_0 1 rfl 0 rfl ?_
  refine v_iload_n X dX9_strength_1 2 rfl 1 rfl ?_
  refine v_iload_n X dX9_strength_2 3 rfl 2 rfl ?_
  subst hQ; exact v_txV X tb hlk hM (h_cm.1) (x_X9_needTestimony_1 l hl E x co hs er fa ss k w hO gk gw k0 nk) kvX9_needTestimony kiX9_needTestimony kl_X9_147 (q0 := 0) rfl rfl (As := [.int (zI k), .int (zI w)]) rfl rfl rfl rfl dX9_strength_3 (fun q hq => hq.elim) ⟨h_cm, h_co⟩ (fun H1 hF hpo => trivial)
set_option maxHeartbeats 4000000 in
set_option maxRecDepth 20000 in
theorem x_X9_strength_2 (l : Launch) (hl : l.stackTraces = false) (E : Nat → Nat → Nat) (x : Nat) (co : Nat → Int → Int) (hs : Int) (er : Int) (fa : Int) (ss : Int) (k : Int) (w : Int) (hO : OkC co) (gk : Rg k) (gw : Rg w) (k0 : 0 ≤ k ∧ k < co 0 0) (k1 : 0 ≤ w ∧ w < co 0 1) (nk : ¬ (0 < co 9 (k * 8 + w))) : Tx l yX9_strength cX9_strength 3 (some .int) 7 1 6 E [] [.ref x, .int (zI k), .int (zI w)] (fun H => PR E x [(x, .inr (11, [.ref (x + 1), .ref (x + 29), .ref (x + 57), .ref (x + 85), .ref (x + 311), .ref (x + 314), .ref (x + 319), .ref (x + 332), .int (zI hs), .int (zI er), .int (zI fa), .int (zI ss)]))] H ∧ PR E (x + 1) (courtW E (x + 1) co) H) "java/util/NoSuchElementException" (fun H => True) := by
  refine Tx.start (own := RX9) rfl (by decide +kernel) (Nat.le_of_ble_eq_true rfl) ?_
  intro p e s m below meth cd args Q hQ X tb hlk hM hPr
  obtain ⟨h_cm, h_co⟩ := hPr
  have hb0 := hO.b0
  have hbw := hO.bw
  refine v_aload_n X dX9_strength_0 1 rfl 0 rfl ?_
  refine v_iload_n X dX9_strength_1 2 rfl 1 rfl ?_
  refine v_iload_n X dX9_strength_2 3 rfl 2 rfl ?_
  subst hQ; exact v_txV X tb hlk hM (h_cm.1) (x_X9_needTestimony_2 l hl E x co hs er fa ss k w hO gk gw k0 k1 nk) kvX9_needTestimony kiX9_needTestimony kl_X9_147 (q0 := 0) rfl rfl (As := [.int (zI k), .int (zI w)]) rfl rfl rfl rfl dX9_strength_3 (fun q hq => hq.elim) ⟨h_cm, h_co⟩ (fun H1 hF hpo => trivial)
set_option maxHeartbeats 4000000 in
set_option maxRecDepth 20000 in
theorem c_X9_questionCount (l : Launch) (E : Nat → Nat → Nat) (x : Nat) (co : Nat → Int → Int) (hs : Int) (er : Int) (fa : Int) (ss : Int) (k : Int) (w : Int) (hO : OkC co) (gk : Rg k) (gw : Rg w) (k0 : 0 ≤ k ∧ k < co 0 0) (k1 : 0 ≤ w ∧ w < co 0 1) (k2 : 0 < co 9 (k * 8 + w)) : Rd l yX9_questionCount cX9_questionCount 3 (some .int) 3 E [.ref x, .int (zI k), .int (zI w)] ([(x, .inr (11, [.ref (x + 1), .ref (x + 29), .ref (x + 57), .ref (x + 85), .ref (x + 311), .ref (x + 314), .ref (x + 319), .ref (x + 332), .int (zI hs), .int (zI er), .int (zI fa), .int (zI ss)]))] ++ courtW E (x + 1) co) (some (.int (zI (co 10 (k * 8 + w))))) := by
  refine Rd.start (own := RX9) rfl (by decide +kernel) (Nat.le_of_ble_eq_true rfl) ?_
  intro p e s m below meth cd args Q hQ X hr hlk hC hP
  have h_co := PW.right hP
  have h_cm := (PW.left hP)
  have hb0 := hO.b0
  have hbw := hO.bw
  refine v_aload_n X dX9_questionCount_0 1 rfl 0 rfl ?_
  refine v_iload_n X dX9_questionCount_1 2 rfl 1 rfl ?_
  refine v_iload_n X dX9_questionCount_2 3 rfl 2 rfl ?_
  refine v_rdV X hC (PW.app h_cm h_co) (c_X9_needTestimony l E x co hs er fa ss k w hO gk gw k0 k1 k2) kvX9_needTestimony kiX9_needTestimony kl_X9_147 rfl rfl (As := [.int (zI k), .int (zI w)]) rfl rfl rfl dX9_questionCount_3 6 rfl ?_
  show V p l e (rmL 3 0 0) s m args below meth cd Q 3 s.heap [] 0 0 6 [(0, .ref x), (1, .int (zI k)), (2, .int (zI w))] []
  refine v_aload_n X dX9_questionCount_6 7 rfl 0 rfl ?_
  refine v_getf X hC h_cm inX9 0 rfl rfl 0 (by decide) kf_X9_10 (fun _ h => h) rfl dX9_questionCount_7 10 rfl ?_
  refine v_iload_n X dX9_questionCount_10 11 rfl 1 rfl ?_
  refine v_iload_n X dX9_questionCount_11 12 rfl 2 rfl ?_
  refine v_rdV X hC h_co (c_X0_questionsTo l E (x + 1) co k w (by omega) (by omega) (by omega) (by omega)) kvX0_questionsTo kiX0_questionsTo kl_X9_157 rfl rfl (As := [.int (zI k), .int (zI w)]) rfl rfl rfl dX9_questionCount_12 15 rfl ?_
  show V p l e (rmL 3 0 0) s m args below meth cd Q 3 s.heap [] 0 0 15 [(0, .ref x), (1, .int (zI k)), (2, .int (zI w))] [.int (zI (co 10 (k * 8 + w)))]
  have hb_1 := hO.b10 (k * 8 + w)
  subst hQ; exact v_iret0 X hr hlk dX9_questionCount_15 rfl
set_option maxHeartbeats 4000000 in
set_option maxRecDepth 20000 in
theorem x_X9_questionCount_0 (l : Launch) (hl : l.stackTraces = false) (E : Nat → Nat → Nat) (x : Nat) (co : Nat → Int → Int) (hs : Int) (er : Int) (fa : Int) (ss : Int) (k : Int) (w : Int) (hO : OkC co) (gk : Rg k) (gw : Rg w) (nk : ¬ (0 ≤ k ∧ k < co 0 0)) : Tx l yX9_questionCount cX9_questionCount 3 (some .int) 8 1 6 E [] [.ref x, .int (zI k), .int (zI w)] (fun H => PR E x [(x, .inr (11, [.ref (x + 1), .ref (x + 29), .ref (x + 57), .ref (x + 85), .ref (x + 311), .ref (x + 314), .ref (x + 319), .ref (x + 332), .int (zI hs), .int (zI er), .int (zI fa), .int (zI ss)]))] H ∧ PR E (x + 1) (courtW E (x + 1) co) H) "java/lang/IndexOutOfBoundsException" (fun H => True) := by
  refine Tx.start (own := RX9) rfl (by decide +kernel) (Nat.le_of_ble_eq_true rfl) ?_
  intro p e s m below meth cd args Q hQ X tb hlk hM hPr
  obtain ⟨h_cm, h_co⟩ := hPr
  have hb0 := hO.b0
  have hbw := hO.bw
  refine v_aload_n X dX9_questionCount_0 1 rfl 0 rfl ?_
  refine v_iload_n X dX9_questionCount_1 2 rfl 1 rfl ?_
  refine v_iload_n X dX9_questionCount_2 3 rfl 2 rfl ?_
  subst hQ; exact v_txV X tb hlk hM (h_cm.1) (x_X9_needTestimony_0 l hl E x co hs er fa ss k w hO gk gw nk) kvX9_needTestimony kiX9_needTestimony kl_X9_147 (q0 := 0) rfl rfl (As := [.int (zI k), .int (zI w)]) rfl rfl rfl rfl dX9_questionCount_3 (fun q hq => hq.elim) ⟨h_cm, h_co⟩ (fun H1 hF hpo => trivial)
set_option maxHeartbeats 4000000 in
set_option maxRecDepth 20000 in
theorem x_X9_questionCount_1 (l : Launch) (hl : l.stackTraces = false) (E : Nat → Nat → Nat) (x : Nat) (co : Nat → Int → Int) (hs : Int) (er : Int) (fa : Int) (ss : Int) (k : Int) (w : Int) (hO : OkC co) (gk : Rg k) (gw : Rg w) (k0 : 0 ≤ k ∧ k < co 0 0) (nk : ¬ (0 ≤ w ∧ w < co 0 1)) : Tx l yX9_questionCount cX9_questionCount 3 (some .int) 8 1 6 E [] [.ref x, .int (zI k), .int (zI w)] (fun H => PR E x [(x, .inr (11, [.ref (x + 1), .ref (x + 29), .ref (x + 57), .ref (x + 85), .ref (x + 311), .ref (x + 314), .ref (x + 319), .ref (x + 332), .int (zI hs), .int (zI er), .int (zI fa), .int (zI ss)]))] H ∧ PR E (x + 1) (courtW E (x + 1) co) H) "java/lang/IndexOutOfBoundsException" (fun H => True) := by
  refine Tx.start (own := RX9) rfl (by decide +kernel) (Nat.le_of_ble_eq_true rfl) ?_
  intro p e s m below meth cd args Q hQ X tb hlk hM hPr
  obtain ⟨h_cm, h_co⟩ := hPr
  have hb0 := hO.b0
  have hbw := hO.bw
  refine v_aload_n X dX9_questionCount_0 1 rfl 0 rfl ?_
  refine v_iload_n X dX9_questionCount_1 2 rfl 1 rfl ?_
  refine v_iload_n X dX9_questionCount_2 3 rfl 2 rfl ?_
  subst hQ; exact v_txV X tb hlk hM (h_cm.1) (x_X9_needTestimony_1 l hl E x co hs er fa ss k w hO gk gw k0 nk) kvX9_needTestimony kiX9_needTestimony kl_X9_147 (q0 := 0) rfl rfl (As := [.int (zI k), .int (zI w)]) rfl rfl rfl rfl dX9_questionCount_3 (fun q hq => hq.elim) ⟨h_cm, h_co⟩ (fun H1 hF hpo => trivial)
set_option maxHeartbeats 4000000 in
set_option maxRecDepth 20000 in
theorem x_X9_questionCount_2 (l : Launch) (hl : l.stackTraces = false) (E : Nat → Nat → Nat) (x : Nat) (co : Nat → Int → Int) (hs : Int) (er : Int) (fa : Int) (ss : Int) (k : Int) (w : Int) (hO : OkC co) (gk : Rg k) (gw : Rg w) (k0 : 0 ≤ k ∧ k < co 0 0) (k1 : 0 ≤ w ∧ w < co 0 1) (nk : ¬ (0 < co 9 (k * 8 + w))) : Tx l yX9_questionCount cX9_questionCount 3 (some .int) 7 1 6 E [] [.ref x, .int (zI k), .int (zI w)] (fun H => PR E x [(x, .inr (11, [.ref (x + 1), .ref (x + 29), .ref (x + 57), .ref (x + 85), .ref (x + 311), .ref (x + 314), .ref (x + 319), .ref (x + 332), .int (zI hs), .int (zI er), .int (zI fa), .int (zI ss)]))] H ∧ PR E (x + 1) (courtW E (x + 1) co) H) "java/util/NoSuchElementException" (fun H => True) := by
  refine Tx.start (own := RX9) rfl (by decide +kernel) (Nat.le_of_ble_eq_true rfl) ?_
  intro p e s m below meth cd args Q hQ X tb hlk hM hPr
  obtain ⟨h_cm, h_co⟩ := hPr
  have hb0 := hO.b0
  have hbw := hO.bw
  refine v_aload_n X dX9_questionCount_0 1 rfl 0 rfl ?_
  refine v_iload_n X dX9_questionCount_1 2 rfl 1 rfl ?_
  refine v_iload_n X dX9_questionCount_2 3 rfl 2 rfl ?_
  subst hQ; exact v_txV X tb hlk hM (h_cm.1) (x_X9_needTestimony_2 l hl E x co hs er fa ss k w hO gk gw k0 k1 nk) kvX9_needTestimony kiX9_needTestimony kl_X9_147 (q0 := 0) rfl rfl (As := [.int (zI k), .int (zI w)]) rfl rfl rfl rfl dX9_questionCount_3 (fun q hq => hq.elim) ⟨h_cm, h_co⟩ (fun H1 hF hpo => trivial)
set_option maxHeartbeats 4000000 in
set_option maxRecDepth 20000 in
theorem c_X9_caseCount (l : Launch) (E : Nat → Nat → Nat) (x : Nat) (co : Nat → Int → Int) (hs : Int) (er : Int) (fa : Int) (ss : Int) (hO : OkC co) : Rd l yX9_caseCount cX9_caseCount 1 (some .int) 0 E [.ref x] ([(x, .inr (11, [.ref (x + 1), .ref (x + 29), .ref (x + 57), .ref (x + 85), .ref (x + 311), .ref (x + 314), .ref (x + 319), .ref (x + 332), .int (zI hs), .int (zI er), .int (zI fa), .int (zI ss)]))] ++ courtW E (x + 1) co) (some (.int (zI (co 0 0)))) := by
  refine Rd.start (own := RX9) rfl (by decide +kernel) (Nat.le_of_ble_eq_true rfl) ?_
  intro p e s m below meth cd args Q hQ X hr hlk hC hP
  have h_co := PW.right hP
  have h_cm := (PW.left hP)
  have hb0 := hO.b0
  have hbw := hO.bw
  refine v_aload_n X dX9_caseCount_0 1 rfl 0 rfl ?_
  refine v_getf X hC h_cm inX9 0 rfl rfl 0 (by decide) kf_X9_10 (fun _ h => h) rfl dX9_caseCount_1 4 rfl ?_
  refine v_getfN X hC h_co inX0 0 rfl rfl 0 (by decide) kfn_X9_75 (fun _ h => h) rfl dX9_caseCount_4 7 rfl ?_
  show V p l e (rmL 0 0 0) s m args below meth cd Q 1 s.heap [] 0 0 7 [(0, .ref x)] [.int (zI (co 0 0))]
  subst hQ; exact v_iret0 X hr hlk dX9_caseCount_7 rfl
set_option maxHeartbeats 4000000 in
set_option maxRecDepth 20000 in
theorem c_X9_witnessCount (l : Launch) (E : Nat → Nat → Nat) (x : Nat) (co : Nat → Int → Int) (hs : Int) (er : Int) (fa : Int) (ss : Int) (hO : OkC co) : Rd l yX9_witnessCount cX9_witnessCount 1 (some .int) 0 E [.ref x] ([(x, .inr (11, [.ref (x + 1), .ref (x + 29), .ref (x + 57), .ref (x + 85), .ref (x + 311), .ref (x + 314), .ref (x + 319), .ref (x + 332), .int (zI hs), .int (zI er), .int (zI fa), .int (zI ss)]))] ++ courtW E (x + 1) co) (some (.int (zI (co 0 1)))) := by
  refine Rd.start (own := RX9) rfl (by decide +kernel) (Nat.le_of_ble_eq_true rfl) ?_
  intro p e s m below meth cd args Q hQ X hr hlk hC hP
  have h_co := PW.right hP
  have h_cm := (PW.left hP)
  have hb0 := hO.b0
  have hbw := hO.bw
  refine v_aload_n X dX9_witnessCount_0 1 rfl 0 rfl ?_
  refine v_getf X hC h_cm inX9 0 rfl rfl 0 (by decide) kf_X9_10 (fun _ h => h) rfl dX9_witnessCount_1 4 rfl ?_
  refine v_getfN X hC h_co inX0 0 rfl rfl 1 (by decide) kfn_X9_160 (fun _ h => h) rfl dX9_witnessCount_4 7 rfl ?_
  show V p l e (rmL 0 0 0) s m args below meth cd Q 1 s.heap [] 0 0 7 [(0, .ref x)] [.int (zI (co 0 1))]
  subst hQ; exact v_iret0 X hr hlk dX9_witnessCount_7 rfl
set_option maxHeartbeats 4000000 in
set_option maxRecDepth 20000 in
theorem c_X9_decisionCount (l : Launch) (E : Nat → Nat → Nat) (x : Nat) (co : Nat → Int → Int) (hs : Int) (er : Int) (fa : Int) (ss : Int) (hO : OkC co) : Rd l yX9_decisionCount cX9_decisionCount 1 (some .int) 0 E [.ref x] ([(x, .inr (11, [.ref (x + 1), .ref (x + 29), .ref (x + 57), .ref (x + 85), .ref (x + 311), .ref (x + 314), .ref (x + 319), .ref (x + 332), .int (zI hs), .int (zI er), .int (zI fa), .int (zI ss)]))] ++ courtW E (x + 1) co) (some (.int (zI (co 0 2)))) := by
  refine Rd.start (own := RX9) rfl (by decide +kernel) (Nat.le_of_ble_eq_true rfl) ?_
  intro p e s m below meth cd args Q hQ X hr hlk hC hP
  have h_co := PW.right hP
  have h_cm := (PW.left hP)
  have hb0 := hO.b0
  have hbw := hO.bw
  refine v_aload_n X dX9_decisionCount_0 1 rfl 0 rfl ?_
  refine v_getf X hC h_cm inX9 0 rfl rfl 0 (by decide) kf_X9_10 (fun _ h => h) rfl dX9_decisionCount_1 4 rfl ?_
  refine v_getfN X hC h_co inX0 0 rfl rfl 2 (by decide) kfn_X9_261 (fun _ h => h) rfl dX9_decisionCount_4 7 rfl ?_
  show V p l e (rmL 0 0 0) s m args below meth cd Q 1 s.heap [] 0 0 7 [(0, .ref x)] [.int (zI (co 0 2))]
  subst hQ; exact v_iret0 X hr hlk dX9_decisionCount_7 rfl
set_option maxHeartbeats 4000000 in
set_option maxRecDepth 20000 in
theorem c_X9_credibility (l : Launch) (E : Nat → Nat → Nat) (x : Nat) (co : Nat → Int → Int) (hs : Int) (er : Int) (fa : Int) (ss : Int) (w : Int) (hO : OkC co) (gw : Rg w) (k0 : 0 ≤ w ∧ w < co 0 1) : Rd l yX9_credibility cX9_credibility 2 (some .int) 2 E [.ref x, .int (zI w)] ([(x, .inr (11, [.ref (x + 1), .ref (x + 29), .ref (x + 57), .ref (x + 85), .ref (x + 311), .ref (x + 314), .ref (x + 319), .ref (x + 332), .int (zI hs), .int (zI er), .int (zI fa), .int (zI ss)]))] ++ courtW E (x + 1) co) (some (.int (zI (co 11 w)))) := by
  refine Rd.start (own := RX9) rfl (by decide +kernel) (Nat.le_of_ble_eq_true rfl) ?_
  intro p e s m below meth cd args Q hQ X hr hlk hC hP
  have h_co := PW.right hP
  have h_cm := (PW.left hP)
  have hb0 := hO.b0
  have hbw := hO.bw
  refine v_aload_n X dX9_credibility_0 1 rfl 0 rfl ?_
  refine v_iload_n X dX9_credibility_1 2 rfl 1 rfl ?_
  refine v_rdV X hC (PW.app h_cm h_co) (c_X9_needWitness l E x co hs er fa ss w hO gw k0) kvX9_needWitness kiX9_needWitness kl_X9_141 rfl rfl (As := [.int (zI w)]) rfl rfl rfl dX9_credibility_2 5 rfl ?_
  show V p l e (rmL 2 0 0) s m args below meth cd Q 2 s.heap [] 0 0 5 [(0, .ref x), (1, .int (zI w))] []
  refine v_aload_n X dX9_credibility_5 6 rfl 0 rfl ?_
  refine v_getf X hC h_cm inX9 0 rfl rfl 0 (by decide) kf_X9_10 (fun _ h => h) rfl dX9_credibility_6 9 rfl ?_
  refine v_getfN X hC h_co inX0 0 rfl rfl 14 (by decide) kfn_X9_163 (fun _ h => h) rfl dX9_credibility_9 12 rfl ?_
  refine v_iload_n X dX9_credibility_12 13 rfl 1 rfl ?_
  refine v_rdV X hC (PW.part h_co 21 2 (wc := rowW E (x + 22) 8 (co 11)) rfl) (c_X6_get l E (x + 22) 8 (co 11) w (by omega) (by omega) (by omega)) kvX6_get kiX6_get kl_X9_109 rfl rfl (As := [.int (zI w)]) rfl rfl rfl dX9_credibility_13 16 rfl ?_
  show V p l e (rmL 2 0 0) s m args below meth cd Q 2 s.heap [] 0 0 16 [(0, .ref x), (1, .int (zI w))] [.int (zI (co 11 w))]
  have hb_1 := hO.b11 w
  subst hQ; exact v_iret0 X hr hlk dX9_credibility_16 rfl
set_option maxHeartbeats 4000000 in
set_option maxRecDepth 20000 in
theorem x_X9_credibility_0 (l : Launch) (hl : l.stackTraces = false) (E : Nat → Nat → Nat) (x : Nat) (co : Nat → Int → Int) (hs : Int) (er : Int) (fa : Int) (ss : Int) (w : Int) (hO : OkC co) (gw : Rg w) (nk : ¬ (0 ≤ w ∧ w < co 0 1)) : Tx l yX9_credibility cX9_credibility 2 (some .int) 7 1 6 E [] [.ref x, .int (zI w)] (fun H => PR E x [(x, .inr (11, [.ref (x + 1), .ref (x + 29), .ref (x + 57), .ref (x + 85), .ref (x + 311), .ref (x + 314), .ref (x + 319), .ref (x + 332), .int (zI hs), .int (zI er), .int (zI fa), .int (zI ss)]))] H ∧ PR E (x + 1) (courtW E (x + 1) co) H) "java/lang/IndexOutOfBoundsException" (fun H => True) := by
  refine Tx.start (own := RX9) rfl (by decide +kernel) (Nat.le_of_ble_eq_true rfl) ?_
  intro p e s m below meth cd args Q hQ X tb hlk hM hPr
  obtain ⟨h_cm, h_co⟩ := hPr
  have hb0 := hO.b0
  have hbw := hO.bw
  refine v_aload_n X dX9_credibility_0 1 rfl 0 rfl ?_
  refine v_iload_n X dX9_credibility_1 2 rfl 1 rfl ?_
  subst hQ; exact v_txV X tb hlk hM (h_cm.1) (x_X9_needWitness_0 l hl E x co hs er fa ss w hO gw nk) kvX9_needWitness kiX9_needWitness kl_X9_141 (q0 := 0) rfl rfl (As := [.int (zI w)]) rfl rfl rfl rfl dX9_credibility_2 (fun q hq => hq.elim) ⟨h_cm, h_co⟩ (fun H1 hF hpo => trivial)
set_option maxHeartbeats 4000000 in
set_option maxRecDepth 20000 in
theorem c_X9_casesOfWitness (l : Launch) (E : Nat → Nat → Nat) (x : Nat) (co : Nat → Int → Int) (hs : Int) (er : Int) (fa : Int) (ss : Int) (w : Int) (hO : OkC co) (gw : Rg w) (k0 : 0 ≤ w ∧ w < co 0 1) : Rd l yX9_casesOfWitness cX9_casesOfWitness 2 (some .int) 3 E [.ref x, .int (zI w)] ([(x, .inr (11, [.ref (x + 1), .ref (x + 29), .ref (x + 57), .ref (x + 85), .ref (x + 311), .ref (x + 314), .ref (x + 319), .ref (x + 332), .int (zI hs), .int (zI er), .int (zI fa), .int (zI ss)]))] ++ courtW E (x + 1) co) (some (.int (zI (chC co w)))) := by
  refine Rd.start (own := RX9) rfl (by decide +kernel) (Nat.le_of_ble_eq_true rfl) ?_
  intro p e s m below meth cd args Q hQ X hr hlk hC hP
  have h_co := PW.right hP
  have h_cm := (PW.left hP)
  have hb0 := hO.b0
  have hbw := hO.bw
  refine v_aload_n X dX9_casesOfWitness_0 1 rfl 0 rfl ?_
  refine v_iload_n X dX9_casesOfWitness_1 2 rfl 1 rfl ?_
  refine v_rdV X hC (PW.app h_cm h_co) (c_X9_needWitness l E x co hs er fa ss w hO gw k0) kvX9_needWitness kiX9_needWitness kl_X9_141 rfl rfl (As := [.int (zI w)]) rfl rfl rfl dX9_casesOfWitness_2 5 rfl ?_
  show V p l e (rmL 3 0 0) s m args below meth cd Q 2 s.heap [] 0 0 5 [(0, .ref x), (1, .int (zI w))] []
  refine v_aload_n X dX9_casesOfWitness_5 6 rfl 0 rfl ?_
  refine v_getf X hC h_cm inX9 0 rfl rfl 0 (by decide) kf_X9_10 (fun _ h => h) rfl dX9_casesOfWitness_6 9 rfl ?_
  refine v_iload_n X dX9_casesOfWitness_9 10 rfl 1 rfl ?_
  refine v_rdV X hC h_co (c_X0_casesHearingN l E (x + 1) co w hO (by omega) (by omega)) kvX0_casesHearing kiX0_casesHearing kl_X9_166 rfl rfl (As := [.int (zI w)]) rfl rfl rfl dX9_casesOfWitness_10 13 rfl ?_
  show V p l e (rmL 3 0 0) s m args below meth cd Q 2 s.heap [] 0 0 13 [(0, .ref x), (1, .int (zI w))] [.int (zI (chC co w))]
  have hf_1 := chC_b co w
  have hf_2 := hO.b0
  subst hQ; exact v_iret0 X hr hlk dX9_casesOfWitness_13 rfl
set_option maxHeartbeats 4000000 in
set_option maxRecDepth 20000 in
theorem x_X9_casesOfWitness_0 (l : Launch) (hl : l.stackTraces = false) (E : Nat → Nat → Nat) (x : Nat) (co : Nat → Int → Int) (hs : Int) (er : Int) (fa : Int) (ss : Int) (w : Int) (hO : OkC co) (gw : Rg w) (nk : ¬ (0 ≤ w ∧ w < co 0 1)) : Tx l yX9_casesOfWitness cX9_casesOfWitness 2 (some .int) 7 1 6 E [] [.ref x, .int (zI w)] (fun H => PR E x [(x, .inr (11, [.ref (x + 1), .ref (x + 29), .ref (x + 57), .ref (x + 85), .ref (x + 311), .ref (x + 314), .ref (x + 319), .ref (x + 332), .int (zI hs), .int (zI er), .int (zI fa), .int (zI ss)]))] H ∧ PR E (x + 1) (courtW E (x + 1) co) H) "java/lang/IndexOutOfBoundsException" (fun H => True) := by
  refine Tx.start (own := RX9) rfl (by decide +kernel) (Nat.le_of_ble_eq_true rfl) ?_
  intro p e s m below meth cd args Q hQ X tb hlk hM hPr
  obtain ⟨h_cm, h_co⟩ := hPr
  have hb0 := hO.b0
  have hbw := hO.bw
  refine v_aload_n X dX9_casesOfWitness_0 1 rfl 0 rfl ?_
  refine v_iload_n X dX9_casesOfWitness_1 2 rfl 1 rfl ?_
  subst hQ; exact v_txV X tb hlk hM (h_cm.1) (x_X9_needWitness_0 l hl E x co hs er fa ss w hO gw nk) kvX9_needWitness kiX9_needWitness kl_X9_141 (q0 := 0) rfl rfl (As := [.int (zI w)]) rfl rfl rfl rfl dX9_casesOfWitness_2 (fun q hq => hq.elim) ⟨h_cm, h_co⟩ (fun H1 hF hpo => trivial)
set_option maxHeartbeats 4000000 in
set_option maxRecDepth 20000 in
theorem c_X9_mostCredible (l : Launch) (E : Nat → Nat → Nat) (x : Nat) (co : Nat → Int → Int) (hs : Int) (er : Int) (fa : Int) (ss : Int) (r : Int) (hO : OkC co) (gr : Rg r) (k0 : 0 ≤ firstZ (fun j => rkC co j = r) (co 0 1).toNat) : Rd l yX9_mostCredible cX9_mostCredible 3 (some .int) 6 E [.ref x, .int (zI r)] ([(x, .inr (11, [.ref (x + 1), .ref (x + 29), .ref (x + 57), .ref (x + 85), .ref (x + 311), .ref (x + 314), .ref (x + 319), .ref (x + 332), .int (zI hs), .int (zI er), .int (zI fa), .int (zI ss)]))] ++ courtW E (x + 1) co) (some (.int (zI (firstZ (fun j => rkC co j = r) (co 0 1).toNat)))) := by
  refine Rd.start (own := RX9) rfl (by decide +kernel) (Nat.le_of_ble_eq_true rfl) ?_
  intro p e s m below meth cd args Q hQ X hr hlk hC hP
  have h_co := PW.right hP
  have h_cm := (PW.left hP)
  have hb0 := hO.b0
  have hbw := hO.bw
  refine v_aload_n X dX9_mostCredible_0 1 rfl 0 rfl ?_
  refine v_getf X hC h_cm inX9 0 rfl rfl 0 (by decide) kf_X9_10 (fun _ h => h) rfl dX9_mostCredible_1 4 rfl ?_
  refine v_iload_n X dX9_mostCredible_4 5 rfl 1 rfl ?_
  refine v_rdV X hC h_co (c_X0_witnessOfRank l E (x + 1) co r hO gr) kvX0_witnessOfRank kiX0_witnessOfRank kl_X9_169 rfl rfl (As := [.int (zI r)]) rfl rfl rfl dX9_mostCredible_5 8 rfl ?_
  show V p l e (rmL 6 0 0) s m args below meth cd Q 3 s.heap [] 0 0 8 [(0, .ref x), (1, .int (zI r))] [.int (zI (firstZ (fun j => rkC co j = r) (co 0 1).toNat))]
  have hb_1 := hO.bw
  have hf_2 := firstZ_b (fun j => rkC co j = r) (co 0 1).toNat
  refine v_istore_n X dX9_mostCredible_8 9 rfl rfl (by decide) (L' := [(2, .int (zI (firstZ (fun j => rkC co j = r) (co 0 1).toNat))), (0, .ref x), (1, .int (zI r))]) rfl ?_
  refine v_iload_n X dX9_mostCredible_9 10 rfl 0 rfl ?_
  refine v_iconst X dX9_mostCredible_10 11 rfl ?_
  refine v_icmp_ne X (by omega) (by omega) dX9_mostCredible_11 14 24 rfl (by decide) (fun c_3 => ?_) (fun c_3 => ?_)
  · skip
    refine v_iload_n X dX9_mostCredible_24 25 rfl 0 rfl ?_
    subst hQ; exact v_iret0 X hr hlk dX9_mostCredible_25 rfl
  · skip
    exfalso; omega
set_option maxHeartbeats 4000000 in
set_option maxRecDepth 20000 in
theorem x_X9_mostCredible_0 (l : Launch) (hl : l.stackTraces = false) (E : Nat → Nat → Nat) (x : Nat) (co : Nat → Int → Int) (hs : Int) (er : Int) (fa : Int) (ss : Int) (r : Int) (hO : OkC co) (gr : Rg r) (nk : ¬ (0 ≤ firstZ (fun j => rkC co j = r) (co 0 1).toNat)) : Tx l yX9_mostCredible cX9_mostCredible 3 (some .int) 6 1 6 E [] [.ref x, .int (zI r)] (fun H => PR E x [(x, .inr (11, [.ref (x + 1), .ref (x + 29), .ref (x + 57), .ref (x + 85), .ref (x + 311), .ref (x + 314), .ref (x + 319), .ref (x + 332), .int (zI hs), .int (zI er), .int (zI fa), .int (zI ss)]))] H ∧ PR E (x + 1) (courtW E (x + 1) co) H) "java/util/NoSuchElementException" (fun H => True) := by
  refine Tx.start (own := RX9) rfl (by decide +kernel) (Nat.le_of_ble_eq_true rfl) ?_
  intro p e s m below meth cd args Q hQ X tb hlk hM hPr
  obtain ⟨h_cm, h_co⟩ := hPr
  have hb0 := hO.b0
  have hbw := hO.bw
  refine v_aload_n X dX9_mostCredible_0 1 rfl 0 rfl ?_
  refine v_getf X hM.C h_cm.1 inX9 0 rfl rfl 0 (by decide) kf_X9_10 (fun _ h => h) rfl dX9_mostCredible_1 4 rfl ?_
  refine v_iload_n X dX9_mostCredible_4 5 rfl 1 rfl ?_
  refine v_rdV X hM.C h_co.1 (c_X0_witnessOfRank l E (x + 1) co r hO gr) kvX0_witnessOfRank kiX0_witnessOfRank kl_X9_169 rfl rfl (As := [.int (zI r)]) rfl rfl rfl dX9_mostCredible_5 8 rfl ?_
  show V p l e (rmL 6 1 6) s m args below meth cd Q 3 s.heap [] 0 0 8 [(0, .ref x), (1, .int (zI r))] [.int (zI (firstZ (fun j => rkC co j = r) (co 0 1).toNat))]
  have hb_1 := hO.bw
  have hf_2 := firstZ_b (fun j => rkC co j = r) (co 0 1).toNat
  refine v_istore_n X dX9_mostCredible_8 9 rfl rfl (by decide) (L' := [(2, .int (zI (firstZ (fun j => rkC co j = r) (co 0 1).toNat))), (0, .ref x), (1, .int (zI r))]) rfl ?_
  refine v_iload_n X dX9_mostCredible_9 10 rfl 0 rfl ?_
  refine v_iconst X dX9_mostCredible_10 11 rfl ?_
  refine v_icmp_ne X (by omega) (by omega) dX9_mostCredible_11 14 24 rfl (by decide) (fun c_3 => ?_) (fun c_3 => ?_)
  · skip
    refine v_iload_n X dX9_mostCredible_24 25 rfl 0 rfl ?_
    exfalso; omega
  · skip
    subst hQ; exact v_throw X hl tb hlk hM xt_NSE xk_NSE 17 rfl dX9_mostCredible_14 dX9_mostCredible_17 dX9_mostCredible_18 dX9_mostCredible_20 dX9_mostCredible_23 rfl (fun H1 hF => trivial)
set_option maxHeartbeats 4000000 in
set_option maxRecDepth 20000 in
theorem c_X9_agreement (l : Launch) (E : Nat → Nat → Nat) (x : Nat) (co : Nat → Int → Int) (hs : Int) (er : Int) (fa : Int) (ss : Int) (w : Int) (y : Int) (hO : OkC co) (gw : Rg w) (gy : Rg y) (k0 : 0 ≤ w ∧ w < co 0 1) (k1 : 0 ≤ y ∧ y < co 0 1) : Rd l yX9_agreement cX9_agreement 3 (some .int) 3 E [.ref x, .int (zI w), .int (zI y)] ([(x, .inr (11, [.ref (x + 1), .ref (x + 29), .ref (x + 57), .ref (x + 85), .ref (x + 311), .ref (x + 314), .ref (x + 319), .ref (x + 332), .int (zI hs), .int (zI er), .int (zI fa), .int (zI ss)]))] ++ courtW E (x + 1) co) (some (.int (zI (sumZ (fun j => co 8 (j * 8 + w) * co 8 (j * 8 + y)) (co 0 0).toNat)))) := by
  refine Rd.start (own := RX9) rfl (by decide +kernel) (Nat.le_of_ble_eq_true rfl) ?_
  intro p e s m below meth cd args Q hQ X hr hlk hC hP
  have h_co := PW.right hP
  have h_cm := (PW.left hP)
  have hb0 := hO.b0
  have hbw := hO.bw
  refine v_aload_n X dX9_agreement_0 1 rfl 0 rfl ?_
  refine v_iload_n X dX9_agreement_1 2 rfl 1 rfl ?_
  refine v_rdV X hC (PW.app h_cm h_co) (c_X9_needWitness l E x co hs er fa ss w hO gw k0) kvX9_needWitness kiX9_needWitness kl_X9_141 rfl rfl (As := [.int (zI w)]) rfl rfl rfl dX9_agreement_2 5 rfl ?_
  show V p l e (rmL 3 0 0) s m args below meth cd Q 3 s.heap [] 0 0 5 [(0, .ref x), (1, .int (zI w)), (2, .int (zI y))] []
  refine v_aload_n X dX9_agreement_5 6 rfl 0 rfl ?_
  refine v_iload_n X dX9_agreement_6 7 rfl 2 rfl ?_
  refine v_rdV X hC (PW.app h_cm h_co) (c_X9_needWitness l E x co hs er fa ss y hO gy k1) kvX9_needWitness kiX9_needWitness kl_X9_141 rfl rfl (As := [.int (zI y)]) rfl rfl rfl dX9_agreement_7 10 rfl ?_
  show V p l e (rmL 3 0 0) s m args below meth cd Q 3 s.heap [] 0 0 10 [(0, .ref x), (1, .int (zI w)), (2, .int (zI y))] []
  refine v_aload_n X dX9_agreement_10 11 rfl 0 rfl ?_
  refine v_getf X hC h_cm inX9 0 rfl rfl 0 (by decide) kf_X9_10 (fun _ h => h) rfl dX9_agreement_11 14 rfl ?_
  refine v_iload_n X dX9_agreement_14 15 rfl 1 rfl ?_
  refine v_iload_n X dX9_agreement_15 16 rfl 2 rfl ?_
  refine v_rdV X hC h_co (c_X0_agreementOf l E (x + 1) co w y hO (by omega) (by omega) (by omega) (by omega)) kvX0_agreementOf kiX0_agreementOf kl_X9_174 rfl rfl (As := [.int (zI w), .int (zI y)]) rfl rfl rfl dX9_agreement_16 19 rfl ?_
  show V p l e (rmL 3 0 0) s m args below meth cd Q 3 s.heap [] 0 0 19 [(0, .ref x), (1, .int (zI w)), (2, .int (zI y))] [.int (zI (sumZ (fun j => co 8 (j * 8 + w) * co 8 (j * 8 + y)) (co 0 0).toNat))]
  have hb_1 := hO.b0
  subst hQ; exact v_iret0 X hr hlk dX9_agreement_19 rfl
set_option maxHeartbeats 4000000 in
set_option maxRecDepth 20000 in
theorem x_X9_agreement_0 (l : Launch) (hl : l.stackTraces = false) (E : Nat → Nat → Nat) (x : Nat) (co : Nat → Int → Int) (hs : Int) (er : Int) (fa : Int) (ss : Int) (w : Int) (y : Int) (hO : OkC co) (gw : Rg w) (gy : Rg y) (nk : ¬ (0 ≤ w ∧ w < co 0 1)) : Tx l yX9_agreement cX9_agreement 3 (some .int) 7 1 6 E [] [.ref x, .int (zI w), .int (zI y)] (fun H => PR E x [(x, .inr (11, [.ref (x + 1), .ref (x + 29), .ref (x + 57), .ref (x + 85), .ref (x + 311), .ref (x + 314), .ref (x + 319), .ref (x + 332), .int (zI hs), .int (zI er), .int (zI fa), .int (zI ss)]))] H ∧ PR E (x + 1) (courtW E (x + 1) co) H) "java/lang/IndexOutOfBoundsException" (fun H => True) := by
  refine Tx.start (own := RX9) rfl (by decide +kernel) (Nat.le_of_ble_eq_true rfl) ?_
  intro p e s m below meth cd args Q hQ X tb hlk hM hPr
  obtain ⟨h_cm, h_co⟩ := hPr
  have hb0 := hO.b0
  have hbw := hO.bw
  refine v_aload_n X dX9_agreement_0 1 rfl 0 rfl ?_
  refine v_iload_n X dX9_agreement_1 2 rfl 1 rfl ?_
  subst hQ; exact v_txV X tb hlk hM (h_cm.1) (x_X9_needWitness_0 l hl E x co hs er fa ss w hO gw nk) kvX9_needWitness kiX9_needWitness kl_X9_141 (q0 := 0) rfl rfl (As := [.int (zI w)]) rfl rfl rfl rfl dX9_agreement_2 (fun q hq => hq.elim) ⟨h_cm, h_co⟩ (fun H1 hF hpo => trivial)
set_option maxHeartbeats 4000000 in
set_option maxRecDepth 20000 in
theorem x_X9_agreement_1 (l : Launch) (hl : l.stackTraces = false) (E : Nat → Nat → Nat) (x : Nat) (co : Nat → Int → Int) (hs : Int) (er : Int) (fa : Int) (ss : Int) (w : Int) (y : Int) (hO : OkC co) (gw : Rg w) (gy : Rg y) (k0 : 0 ≤ w ∧ w < co 0 1) (nk : ¬ (0 ≤ y ∧ y < co 0 1)) : Tx l yX9_agreement cX9_agreement 3 (some .int) 7 1 6 E [] [.ref x, .int (zI w), .int (zI y)] (fun H => PR E x [(x, .inr (11, [.ref (x + 1), .ref (x + 29), .ref (x + 57), .ref (x + 85), .ref (x + 311), .ref (x + 314), .ref (x + 319), .ref (x + 332), .int (zI hs), .int (zI er), .int (zI fa), .int (zI ss)]))] H ∧ PR E (x + 1) (courtW E (x + 1) co) H) "java/lang/IndexOutOfBoundsException" (fun H => True) := by
  refine Tx.start (own := RX9) rfl (by decide +kernel) (Nat.le_of_ble_eq_true rfl) ?_
  intro p e s m below meth cd args Q hQ X tb hlk hM hPr
  obtain ⟨h_cm, h_co⟩ := hPr
  have hb0 := hO.b0
  have hbw := hO.bw
  refine v_aload_n X dX9_agreement_0 1 rfl 0 rfl ?_
  refine v_iload_n X dX9_agreement_1 2 rfl 1 rfl ?_
  refine v_rdV X hM.C (PW.app h_cm.1 h_co.1) (c_X9_needWitness l E x co hs er fa ss w hO gw k0) kvX9_needWitness kiX9_needWitness kl_X9_141 rfl rfl (As := [.int (zI w)]) rfl rfl rfl dX9_agreement_2 5 rfl ?_
  show V p l e (rmL 7 1 6) s m args below meth cd Q 3 s.heap [] 0 0 5 [(0, .ref x), (1, .int (zI w)), (2, .int (zI y))] []
  refine v_aload_n X dX9_agreement_5 6 rfl 0 rfl ?_
  refine v_iload_n X dX9_agreement_6 7 rfl 2 rfl ?_
  subst hQ; exact v_txV X tb hlk hM (h_cm.1) (x_X9_needWitness_0 l hl E x co hs er fa ss y hO gy nk) kvX9_needWitness kiX9_needWitness kl_X9_141 (q0 := 0) rfl rfl (As := [.int (zI y)]) rfl rfl rfl rfl dX9_agreement_7 (fun q hq => hq.elim) ⟨h_cm, h_co⟩ (fun H1 hF hpo => trivial)
set_option maxHeartbeats 4000000 in
set_option maxRecDepth 20000 in
theorem c_X9_areConnected (l : Launch) (E : Nat → Nat → Nat) (x : Nat) (co : Nat → Int → Int) (hs : Int) (er : Int) (fa : Int) (ss : Int) (w : Int) (y : Int) (hO : OkC co) (gw : Rg w) (gy : Rg y) (k0 : 0 ≤ w ∧ w < co 0 1) (k1 : 0 ≤ y ∧ y < co 0 1) : Rd l yX9_areConnected cX9_areConnected 3 (some .boolean) 3 E [.ref x, .int (zI w), .int (zI y)] ([(x, .inr (11, [.ref (x + 1), .ref (x + 29), .ref (x + 57), .ref (x + 85), .ref (x + 311), .ref (x + 314), .ref (x + 319), .ref (x + 332), .int (zI hs), .int (zI er), .int (zI fa), .int (zI ss)]))] ++ courtW E (x + 1) co) (some (.int (zI (bz (rtF (co 13) 8 w = rtF (co 13) 8 y))))) := by
  refine Rd.start (own := RX9) rfl (by decide +kernel) (Nat.le_of_ble_eq_true rfl) ?_
  intro p e s m below meth cd args Q hQ X hr hlk hC hP
  have h_co := PW.right hP
  have h_cm := (PW.left hP)
  have hb0 := hO.b0
  have hbw := hO.bw
  refine v_aload_n X dX9_areConnected_0 1 rfl 0 rfl ?_
  refine v_iload_n X dX9_areConnected_1 2 rfl 1 rfl ?_
  refine v_rdV X hC (PW.app h_cm h_co) (c_X9_needWitness l E x co hs er fa ss w hO gw k0) kvX9_needWitness kiX9_needWitness kl_X9_141 rfl rfl (As := [.int (zI w)]) rfl rfl rfl dX9_areConnected_2 5 rfl ?_
  show V p l e (rmL 3 0 0) s m args below meth cd Q 3 s.heap [] 0 0 5 [(0, .ref x), (1, .int (zI w)), (2, .int (zI y))] []
  refine v_aload_n X dX9_areConnected_5 6 rfl 0 rfl ?_
  refine v_iload_n X dX9_areConnected_6 7 rfl 2 rfl ?_
  refine v_rdV X hC (PW.app h_cm h_co) (c_X9_needWitness l E x co hs er fa ss y hO gy k1) kvX9_needWitness kiX9_needWitness kl_X9_141 rfl rfl (As := [.int (zI y)]) rfl rfl rfl dX9_areConnected_7 10 rfl ?_
  show V p l e (rmL 3 0 0) s m args below meth cd Q 3 s.heap [] 0 0 10 [(0, .ref x), (1, .int (zI w)), (2, .int (zI y))] []
  refine v_aload_n X dX9_areConnected_10 11 rfl 0 rfl ?_
  refine v_getf X hC h_cm inX9 0 rfl rfl 0 (by decide) kf_X9_10 (fun _ h => h) rfl dX9_areConnected_11 14 rfl ?_
  refine v_getfN X hC h_co inX0 0 rfl rfl 16 (by decide) kfn_X9_177 (fun _ h => h) rfl dX9_areConnected_14 17 rfl ?_
  refine v_iload_n X dX9_areConnected_17 18 rfl 1 rfl ?_
  refine v_iload_n X dX9_areConnected_18 19 rfl 2 rfl ?_
  refine v_rdV X hC (PW.part h_co 25 3 (wc := groupsW E (x + 26) (co 13)) rfl) (c_X3_areUnited l E (x + 26) (co 13) w y hO.b13 (by omega) (by omega) (by omega) (by omega)) kvX3_areUnited kiX3_areUnited kl_X9_181 rfl rfl (As := [.int (zI w), .int (zI y)]) rfl rfl rfl dX9_areConnected_19 22 rfl ?_
  show V p l e (rmL 3 0 0) s m args below meth cd Q 3 s.heap [] 0 0 22 [(0, .ref x), (1, .int (zI w)), (2, .int (zI y))] [.int (zI (bz (rtF (co 13) 8 w = rtF (co 13) 8 y)))]
  subst hQ; exact v_zret0 X hr hlk dX9_areConnected_22 rfl
set_option maxHeartbeats 4000000 in
set_option maxRecDepth 20000 in
theorem x_X9_areConnected_0 (l : Launch) (hl : l.stackTraces = false) (E : Nat → Nat → Nat) (x : Nat) (co : Nat → Int → Int) (hs : Int) (er : Int) (fa : Int) (ss : Int) (w : Int) (y : Int) (hO : OkC co) (gw : Rg w) (gy : Rg y) (nk : ¬ (0 ≤ w ∧ w < co 0 1)) : Tx l yX9_areConnected cX9_areConnected 3 (some .boolean) 7 1 6 E [] [.ref x, .int (zI w), .int (zI y)] (fun H => PR E x [(x, .inr (11, [.ref (x + 1), .ref (x + 29), .ref (x + 57), .ref (x + 85), .ref (x + 311), .ref (x + 314), .ref (x + 319), .ref (x + 332), .int (zI hs), .int (zI er), .int (zI fa), .int (zI ss)]))] H ∧ PR E (x + 1) (courtW E (x + 1) co) H) "java/lang/IndexOutOfBoundsException" (fun H => True) := by
  refine Tx.start (own := RX9) rfl (by decide +kernel) (Nat.le_of_ble_eq_true rfl) ?_
  intro p e s m below meth cd args Q hQ X tb hlk hM hPr
  obtain ⟨h_cm, h_co⟩ := hPr
  have hb0 := hO.b0
  have hbw := hO.bw
  refine v_aload_n X dX9_areConnected_0 1 rfl 0 rfl ?_
  refine v_iload_n X dX9_areConnected_1 2 rfl 1 rfl ?_
  subst hQ; exact v_txV X tb hlk hM (h_cm.1) (x_X9_needWitness_0 l hl E x co hs er fa ss w hO gw nk) kvX9_needWitness kiX9_needWitness kl_X9_141 (q0 := 0) rfl rfl (As := [.int (zI w)]) rfl rfl rfl rfl dX9_areConnected_2 (fun q hq => hq.elim) ⟨h_cm, h_co⟩ (fun H1 hF hpo => trivial)
set_option maxHeartbeats 4000000 in
set_option maxRecDepth 20000 in
theorem x_X9_areConnected_1 (l : Launch) (hl : l.stackTraces = false) (E : Nat → Nat → Nat) (x : Nat) (co : Nat → Int → Int) (hs : Int) (er : Int) (fa : Int) (ss : Int) (w : Int) (y : Int) (hO : OkC co) (gw : Rg w) (gy : Rg y) (k0 : 0 ≤ w ∧ w < co 0 1) (nk : ¬ (0 ≤ y ∧ y < co 0 1)) : Tx l yX9_areConnected cX9_areConnected 3 (some .boolean) 7 1 6 E [] [.ref x, .int (zI w), .int (zI y)] (fun H => PR E x [(x, .inr (11, [.ref (x + 1), .ref (x + 29), .ref (x + 57), .ref (x + 85), .ref (x + 311), .ref (x + 314), .ref (x + 319), .ref (x + 332), .int (zI hs), .int (zI er), .int (zI fa), .int (zI ss)]))] H ∧ PR E (x + 1) (courtW E (x + 1) co) H) "java/lang/IndexOutOfBoundsException" (fun H => True) := by
  refine Tx.start (own := RX9) rfl (by decide +kernel) (Nat.le_of_ble_eq_true rfl) ?_
  intro p e s m below meth cd args Q hQ X tb hlk hM hPr
  obtain ⟨h_cm, h_co⟩ := hPr
  have hb0 := hO.b0
  have hbw := hO.bw
  refine v_aload_n X dX9_areConnected_0 1 rfl 0 rfl ?_
  refine v_iload_n X dX9_areConnected_1 2 rfl 1 rfl ?_
  refine v_rdV X hM.C (PW.app h_cm.1 h_co.1) (c_X9_needWitness l E x co hs er fa ss w hO gw k0) kvX9_needWitness kiX9_needWitness kl_X9_141 rfl rfl (As := [.int (zI w)]) rfl rfl rfl dX9_areConnected_2 5 rfl ?_
  show V p l e (rmL 7 1 6) s m args below meth cd Q 3 s.heap [] 0 0 5 [(0, .ref x), (1, .int (zI w)), (2, .int (zI y))] []
  refine v_aload_n X dX9_areConnected_5 6 rfl 0 rfl ?_
  refine v_iload_n X dX9_areConnected_6 7 rfl 2 rfl ?_
  subst hQ; exact v_txV X tb hlk hM (h_cm.1) (x_X9_needWitness_0 l hl E x co hs er fa ss y hO gy nk) kvX9_needWitness kiX9_needWitness kl_X9_141 (q0 := 0) rfl rfl (As := [.int (zI y)]) rfl rfl rfl rfl dX9_areConnected_7 (fun q hq => hq.elim) ⟨h_cm, h_co⟩ (fun H1 hF hpo => trivial)
set_option maxHeartbeats 4000000 in
set_option maxRecDepth 20000 in
theorem c_X9_groupSize (l : Launch) (E : Nat → Nat → Nat) (x : Nat) (co : Nat → Int → Int) (hs : Int) (er : Int) (fa : Int) (ss : Int) (w : Int) (hO : OkC co) (gw : Rg w) (k0 : 0 ≤ w ∧ w < co 0 1) : Rd l yX9_groupSize cX9_groupSize 2 (some .int) 4 E [.ref x, .int (zI w)] ([(x, .inr (11, [.ref (x + 1), .ref (x + 29), .ref (x + 57), .ref (x + 85), .ref (x + 311), .ref (x + 314), .ref (x + 319), .ref (x + 332), .int (zI hs), .int (zI er), .int (zI fa), .int (zI ss)]))] ++ courtW E (x + 1) co) (some (.int (zI (sumZ (fun j => bz (rtF (co 13) 8 w = rtF (co 13) 8 j)) (co 0 1).toNat)))) := by
  refine Rd.start (own := RX9) rfl (by decide +kernel) (Nat.le_of_ble_eq_true rfl) ?_
  intro p e s m below meth cd args Q hQ X hr hlk hC hP
  have h_co := PW.right hP
  have h_cm := (PW.left hP)
  have hb0 := hO.b0
  have hbw := hO.bw
  refine v_aload_n X dX9_groupSize_0 1 rfl 0 rfl ?_
  refine v_iload_n X dX9_groupSize_1 2 rfl 1 rfl ?_
  refine v_rdV X hC (PW.app h_cm h_co) (c_X9_needWitness l E x co hs er fa ss w hO gw k0) kvX9_needWitness kiX9_needWitness kl_X9_141 rfl rfl (As := [.int (zI w)]) rfl rfl rfl dX9_groupSize_2 5 rfl ?_
  show V p l e (rmL 4 0 0) s m args below meth cd Q 2 s.heap [] 0 0 5 [(0, .ref x), (1, .int (zI w))] []
  refine v_aload_n X dX9_groupSize_5 6 rfl 0 rfl ?_
  refine v_getf X hC h_cm inX9 0 rfl rfl 0 (by decide) kf_X9_10 (fun _ h => h) rfl dX9_groupSize_6 9 rfl ?_
  refine v_getfN X hC h_co inX0 0 rfl rfl 16 (by decide) kfn_X9_177 (fun _ h => h) rfl dX9_groupSize_9 12 rfl ?_
  refine v_iload_n X dX9_groupSize_12 13 rfl 1 rfl ?_
  refine v_aload_n X dX9_groupSize_13 14 rfl 0 rfl ?_
  refine v_getf X hC h_cm inX9 0 rfl rfl 0 (by decide) kf_X9_10 (fun _ h => h) rfl dX9_groupSize_14 17 rfl ?_
  refine v_getfN X hC h_co inX0 0 rfl rfl 1 (by decide) kfn_X9_160 (fun _ h => h) rfl dX9_groupSize_17 20 rfl ?_
  show V p l e (rmL 4 0 0) s m args below meth cd Q 2 s.heap [] 0 0 20 [(0, .ref x), (1, .int (zI w))] [.int (zI (co 0 1)), .int (zI w), .ref (x + 26)]
  have hb_1 := hO.bw
  refine v_rdV X hC (PW.part h_co 25 3 (wc := groupsW E (x + 26) (co 13)) rfl) (c_X3_sizeAround l E (x + 26) (co 13) w (co 0 1) hO.b13 (by omega) (by omega) (by omega)) kvX3_sizeAround kiX3_sizeAround kl_X9_193 rfl rfl (As := [.int (zI w), .int (zI (co 0 1))]) rfl rfl rfl dX9_groupSize_20 23 rfl ?_
  show V p l e (rmL 4 0 0) s m args below meth cd Q 2 s.heap [] 0 0 23 [(0, .ref x), (1, .int (zI w))] [.int (zI (sumZ (fun j => bz (rtF (co 13) 8 w = rtF (co 13) 8 j)) ((co 0 1)).toNat))]
  have hf_2 := cnt_b (fun j => rtF (co 13) 8 w = rtF (co 13) 8 j) ((co 0 1)).toNat
  subst hQ; exact v_iret0 X hr hlk dX9_groupSize_23 (by omega)
set_option maxHeartbeats 4000000 in
set_option maxRecDepth 20000 in
theorem x_X9_groupSize_0 (l : Launch) (hl : l.stackTraces = false) (E : Nat → Nat → Nat) (x : Nat) (co : Nat → Int → Int) (hs : Int) (er : Int) (fa : Int) (ss : Int) (w : Int) (hO : OkC co) (gw : Rg w) (nk : ¬ (0 ≤ w ∧ w < co 0 1)) : Tx l yX9_groupSize cX9_groupSize 2 (some .int) 7 1 6 E [] [.ref x, .int (zI w)] (fun H => PR E x [(x, .inr (11, [.ref (x + 1), .ref (x + 29), .ref (x + 57), .ref (x + 85), .ref (x + 311), .ref (x + 314), .ref (x + 319), .ref (x + 332), .int (zI hs), .int (zI er), .int (zI fa), .int (zI ss)]))] H ∧ PR E (x + 1) (courtW E (x + 1) co) H) "java/lang/IndexOutOfBoundsException" (fun H => True) := by
  refine Tx.start (own := RX9) rfl (by decide +kernel) (Nat.le_of_ble_eq_true rfl) ?_
  intro p e s m below meth cd args Q hQ X tb hlk hM hPr
  obtain ⟨h_cm, h_co⟩ := hPr
  have hb0 := hO.b0
  have hbw := hO.bw
  refine v_aload_n X dX9_groupSize_0 1 rfl 0 rfl ?_
  refine v_iload_n X dX9_groupSize_1 2 rfl 1 rfl ?_
  subst hQ; exact v_txV X tb hlk hM (h_cm.1) (x_X9_needWitness_0 l hl E x co hs er fa ss w hO gw nk) kvX9_needWitness kiX9_needWitness kl_X9_141 (q0 := 0) rfl rfl (As := [.int (zI w)]) rfl rfl rfl rfl dX9_groupSize_2 (fun q hq => hq.elim) ⟨h_cm, h_co⟩ (fun H1 hF hpo => trivial)
set_option maxHeartbeats 4000000 in
set_option maxRecDepth 20000 in
theorem c_X9_groupCount (l : Launch) (E : Nat → Nat → Nat) (x : Nat) (co : Nat → Int → Int) (hs : Int) (er : Int) (fa : Int) (ss : Int) (hO : OkC co) : Rd l yX9_groupCount cX9_groupCount 1 (some .int) 2 E [.ref x] ([(x, .inr (11, [.ref (x + 1), .ref (x + 29), .ref (x + 57), .ref (x + 85), .ref (x + 311), .ref (x + 314), .ref (x + 319), .ref (x + 332), .int (zI hs), .int (zI er), .int (zI fa), .int (zI ss)]))] ++ courtW E (x + 1) co) (some (.int (zI (sumZ (fun j => bz (co 13 j = j)) (co 0 1).toNat)))) := by
  refine Rd.start (own := RX9) rfl (by decide +kernel) (Nat.le_of_ble_eq_true rfl) ?_
  intro p e s m below meth cd args Q hQ X hr hlk hC hP
  have h_co := PW.right hP
  have h_cm := (PW.left hP)
  have hb0 := hO.b0
  have hbw := hO.bw
  refine v_aload_n X dX9_groupCount_0 1 rfl 0 rfl ?_
  refine v_getf X hC h_cm inX9 0 rfl rfl 0 (by decide) kf_X9_10 (fun _ h => h) rfl dX9_groupCount_1 4 rfl ?_
  refine v_getfN X hC h_co inX0 0 rfl rfl 16 (by decide) kfn_X9_177 (fun _ h => h) rfl dX9_groupCount_4 7 rfl ?_
  refine v_aload_n X dX9_groupCount_7 8 rfl 0 rfl ?_
  refine v_getf X hC h_cm inX9 0 rfl rfl 0 (by decide) kf_X9_10 (fun _ h => h) rfl dX9_groupCount_8 11 rfl ?_
  refine v_getfN X hC h_co inX0 0 rfl rfl 1 (by decide) kfn_X9_160 (fun _ h => h) rfl dX9_groupCount_11 14 rfl ?_
  show V p l e (rmL 2 0 0) s m args below meth cd Q 1 s.heap [] 0 0 14 [(0, .ref x)] [.int (zI (co 0 1)), .ref (x + 26)]
  have hb_1 := hO.bw
  refine v_rdV X hC (PW.part h_co 25 3 (wc := groupsW E (x + 26) (co 13)) rfl) (c_X3_countAmong l E (x + 26) (co 13) (co 0 1) hO.b13 (by omega)) kvX3_countAmong kiX3_countAmong kl_X9_196 rfl rfl (As := [.int (zI (co 0 1))]) rfl rfl rfl dX9_groupCount_14 17 rfl ?_
  show V p l e (rmL 2 0 0) s m args below meth cd Q 1 s.heap [] 0 0 17 [(0, .ref x)] [.int (zI (sumZ (fun j => bz (co 13 j = j)) ((co 0 1)).toNat))]
  have hf_2 := cnt_b (fun j => co 13 j = j) ((co 0 1)).toNat
  subst hQ; exact v_iret0 X hr hlk dX9_groupCount_17 (by omega)
set_option maxHeartbeats 4000000 in
set_option maxRecDepth 20000 in
theorem c_X9_heaviestWitness (l : Launch) (E : Nat → Nat → Nat) (x : Nat) (co : Nat → Int → Int) (hs : Int) (er : Int) (fa : Int) (ss : Int) (k : Int) (hO : OkC co) (gk : Rg k) (k0 : 0 ≤ k ∧ k < co 0 0) (k1 : 0 < co 6 k) : Rd l yX9_heaviestWitness cX9_heaviestWitness 2 (some .int) 3 E [.ref x, .int (zI k)] ([(x, .inr (11, [.ref (x + 1), .ref (x + 29), .ref (x + 57), .ref (x + 85), .ref (x + 311), .ref (x + 314), .ref (x + 319), .ref (x + 332), .int (zI hs), .int (zI er), .int (zI fa), .int (zI ss)]))] ++ courtW E (x + 1) co) (some (.int (zI (co 7 (k * 6 + amx (wtC co k) (co 6 k).toNat))))) := by
  refine Rd.start (own := RX9) rfl (by decide +kernel) (Nat.le_of_ble_eq_true rfl) ?_
  intro p e s m below meth cd args Q hQ X hr hlk hC hP
  have h_co := PW.right hP
  have h_cm := (PW.left hP)
  have hb0 := hO.b0
  have hbw := hO.bw
  have hb6 := hO.b6 k
  refine v_aload_n X dX9_heaviestWitness_0 1 rfl 0 rfl ?_
  refine v_iload_n X dX9_heaviestWitness_1 2 rfl 1 rfl ?_
  refine v_rdV X hC (PW.app h_cm h_co) (c_X9_needCase l E x co hs er fa ss k hO gk k0) kvX9_needCase kiX9_needCase kl_X9_101 rfl rfl (As := [.int (zI k)]) rfl rfl rfl dX9_heaviestWitness_2 5 rfl ?_
  show V p l e (rmL 3 0 0) s m args below meth cd Q 2 s.heap [] 0 0 5 [(0, .ref x), (1, .int (zI k))] []
  refine v_aload_n X dX9_heaviestWitness_5 6 rfl 0 rfl ?_
  refine v_getf X hC h_cm inX9 0 rfl rfl 0 (by decide) kf_X9_10 (fun _ h => h) rfl dX9_heaviestWitness_6 9 rfl ?_
  refine v_getfN X hC h_co inX0 0 rfl rfl 9 (by decide) kfn_X9_133 (fun _ h => h) rfl dX9_heaviestWitness_9 12 rfl ?_
  refine v_iload_n X dX9_heaviestWitness_12 13 rfl 1 rfl ?_
  refine v_rdV X hC (PW.part h_co 11 2 (wc := rowW E (x + 12) 16 (co 6)) rfl) (c_X6_get l E (x + 12) 16 (co 6) k (by omega) (by omega) (by omega)) kvX6_get kiX6_get kl_X9_109 rfl rfl (As := [.int (zI k)]) rfl rfl rfl dX9_heaviestWitness_13 16 rfl ?_
  show V p l e (rmL 3 0 0) s m args below meth cd Q 2 s.heap [] 0 0 16 [(0, .ref x), (1, .int (zI k))] [.int (zI (co 6 k))]
  have hb_1 := hO.b6 k
  refine v_if_ne X (by omega) dX9_heaviestWitness_16 19 29 rfl (by decide) (fun c_2 => ?_) (fun c_2 => ?_)
  · skip
    refine v_aload_n X dX9_heaviestWitness_29 30 rfl 0 rfl ?_
    refine v_getf X hC h_cm inX9 0 rfl rfl 0 (by decide) kf_X9_10 (fun _ h => h) rfl dX9_heaviestWitness_30 33 rfl ?_
    refine v_iload_n X dX9_heaviestWitness_33 34 rfl 1 rfl ?_
    refine v_rdS X hC h_co (c_X8_heaviestIn l E (x + 1) co k hO (by omega) (by omega) k1) kvX8_heaviestIn ksX8_heaviestIn kl_X9_201 (As := [.ref (x + 1), .int (zI k)]) rfl rfl rfl dX9_heaviestWitness_34 37 rfl ?_
    show V p l e (rmL 3 0 0) s m args below meth cd Q 2 s.heap [] 0 0 37 [(0, .ref x), (1, .int (zI k))] [.int (zI (co 7 (k * 6 + amx (wtC co k) (co 6 k).toNat)))]
    have hb_3 := hO.b7 (k * 6 + amx (wtC co k) (co 6 k).toNat)
    subst hQ; exact v_iret0 X hr hlk dX9_heaviestWitness_37 rfl
  · skip
    exfalso; omega
set_option maxHeartbeats 4000000 in
set_option maxRecDepth 20000 in
theorem x_X9_heaviestWitness_0 (l : Launch) (hl : l.stackTraces = false) (E : Nat → Nat → Nat) (x : Nat) (co : Nat → Int → Int) (hs : Int) (er : Int) (fa : Int) (ss : Int) (k : Int) (hO : OkC co) (gk : Rg k) (nk : ¬ (0 ≤ k ∧ k < co 0 0)) : Tx l yX9_heaviestWitness cX9_heaviestWitness 2 (some .int) 7 1 6 E [] [.ref x, .int (zI k)] (fun H => PR E x [(x, .inr (11, [.ref (x + 1), .ref (x + 29), .ref (x + 57), .ref (x + 85), .ref (x + 311), .ref (x + 314), .ref (x + 319), .ref (x + 332), .int (zI hs), .int (zI er), .int (zI fa), .int (zI ss)]))] H ∧ PR E (x + 1) (courtW E (x + 1) co) H) "java/lang/IndexOutOfBoundsException" (fun H => True) := by
  refine Tx.start (own := RX9) rfl (by decide +kernel) (Nat.le_of_ble_eq_true rfl) ?_
  intro p e s m below meth cd args Q hQ X tb hlk hM hPr
  obtain ⟨h_cm, h_co⟩ := hPr
  have hb0 := hO.b0
  have hbw := hO.bw
  have hb6 := hO.b6 k
  refine v_aload_n X dX9_heaviestWitness_0 1 rfl 0 rfl ?_
  refine v_iload_n X dX9_heaviestWitness_1 2 rfl 1 rfl ?_
  subst hQ; exact v_txV X tb hlk hM (h_cm.1) (x_X9_needCase_0 l hl E x co hs er fa ss k hO gk nk) kvX9_needCase kiX9_needCase kl_X9_101 (q0 := 0) rfl rfl (As := [.int (zI k)]) rfl rfl rfl rfl dX9_heaviestWitness_2 (fun q hq => hq.elim) ⟨h_cm, h_co⟩ (fun H1 hF hpo => trivial)
set_option maxHeartbeats 4000000 in
set_option maxRecDepth 20000 in
theorem x_X9_heaviestWitness_1 (l : Launch) (hl : l.stackTraces = false) (E : Nat → Nat → Nat) (x : Nat) (co : Nat → Int → Int) (hs : Int) (er : Int) (fa : Int) (ss : Int) (k : Int) (hO : OkC co) (gk : Rg k) (k0 : 0 ≤ k ∧ k < co 0 0) (nk : ¬ (0 < co 6 k)) : Tx l yX9_heaviestWitness cX9_heaviestWitness 2 (some .int) 6 1 6 E [] [.ref x, .int (zI k)] (fun H => PR E x [(x, .inr (11, [.ref (x + 1), .ref (x + 29), .ref (x + 57), .ref (x + 85), .ref (x + 311), .ref (x + 314), .ref (x + 319), .ref (x + 332), .int (zI hs), .int (zI er), .int (zI fa), .int (zI ss)]))] H ∧ PR E (x + 1) (courtW E (x + 1) co) H) "java/util/NoSuchElementException" (fun H => True) := by
  refine Tx.start (own := RX9) rfl (by decide +kernel) (Nat.le_of_ble_eq_true rfl) ?_
  intro p e s m below meth cd args Q hQ X tb hlk hM hPr
  obtain ⟨h_cm, h_co⟩ := hPr
  have hb0 := hO.b0
  have hbw := hO.bw
  have hb6 := hO.b6 k
  refine v_aload_n X dX9_heaviestWitness_0 1 rfl 0 rfl ?_
  refine v_iload_n X dX9_heaviestWitness_1 2 rfl 1 rfl ?_
  refine v_rdV X hM.C (PW.app h_cm.1 h_co.1) (c_X9_needCase l E x co hs er fa ss k hO gk k0) kvX9_needCase kiX9_needCase kl_X9_101 rfl rfl (As := [.int (zI k)]) rfl rfl rfl dX9_heaviestWitness_2 5 rfl ?_
  show V p l e (rmL 6 1 6) s m args below meth cd Q 2 s.heap [] 0 0 5 [(0, .ref x), (1, .int (zI k))] []
  refine v_aload_n X dX9_heaviestWitness_5 6 rfl 0 rfl ?_
  refine v_getf X hM.C h_cm.1 inX9 0 rfl rfl 0 (by decide) kf_X9_10 (fun _ h => h) rfl dX9_heaviestWitness_6 9 rfl ?_
  refine v_getfN X hM.C h_co.1 inX0 0 rfl rfl 9 (by decide) kfn_X9_133 (fun _ h => h) rfl dX9_heaviestWitness_9 12 rfl ?_
  refine v_iload_n X dX9_heaviestWitness_12 13 rfl 1 rfl ?_
  refine v_rdV X hM.C (PW.part h_co.1 11 2 (wc := rowW E (x + 12) 16 (co 6)) rfl) (c_X6_get l E (x + 12) 16 (co 6) k (by omega) (by omega) (by omega)) kvX6_get kiX6_get kl_X9_109 rfl rfl (As := [.int (zI k)]) rfl rfl rfl dX9_heaviestWitness_13 16 rfl ?_
  show V p l e (rmL 6 1 6) s m args below meth cd Q 2 s.heap [] 0 0 16 [(0, .ref x), (1, .int (zI k))] [.int (zI (co 6 k))]
  have hb_1 := hO.b6 k
  refine v_if_ne X (by omega) dX9_heaviestWitness_16 19 29 rfl (by decide) (fun c_2 => ?_) (fun c_2 => ?_)
  · skip
    refine v_aload_n X dX9_heaviestWitness_29 30 rfl 0 rfl ?_
    refine v_getf X hM.C h_cm.1 inX9 0 rfl rfl 0 (by decide) kf_X9_10 (fun _ h => h) rfl dX9_heaviestWitness_30 33 rfl ?_
    refine v_iload_n X dX9_heaviestWitness_33 34 rfl 1 rfl ?_
    refine v_rdS X hM.C h_co.1 (c_X8_heaviestIn l E (x + 1) co k hO (by omega) (by omega) (by omega)) kvX8_heaviestIn ksX8_heaviestIn kl_X9_201 (As := [.ref (x + 1), .int (zI k)]) rfl rfl rfl dX9_heaviestWitness_34 37 rfl ?_
    show V p l e (rmL 6 1 6) s m args below meth cd Q 2 s.heap [] 0 0 37 [(0, .ref x), (1, .int (zI k))] [.int (zI (co 7 (k * 6 + amx (wtC co k) (co 6 k).toNat)))]
    have hb_3 := hO.b7 (k * 6 + amx (wtC co k) (co 6 k).toNat)
    exfalso; omega
  · skip
    subst hQ; exact v_throw X hl tb hlk hM xt_NSE xk_NSE 18 rfl dX9_heaviestWitness_19 dX9_heaviestWitness_22 dX9_heaviestWitness_23 dX9_heaviestWitness_25 dX9_heaviestWitness_28 rfl (fun H1 hF => trivial)
set_option maxHeartbeats 4000000 in
set_option maxRecDepth 20000 in
theorem c_X9_prosecutionWeight (l : Launch) (E : Nat → Nat → Nat) (x : Nat) (co : Nat → Int → Int) (hs : Int) (er : Int) (fa : Int) (ss : Int) (k : Int) (hO : OkC co) (gk : Rg k) (k0 : 0 ≤ k ∧ k < co 0 0) : Rd l yX9_prosecutionWeight cX9_prosecutionWeight 2 (some .int) 3 E [.ref x, .int (zI k)] ([(x, .inr (11, [.ref (x + 1), .ref (x + 29), .ref (x + 57), .ref (x + 85), .ref (x + 311), .ref (x + 314), .ref (x + 319), .ref (x + 332), .int (zI hs), .int (zI er), .int (zI fa), .int (zI ss)]))] ++ courtW E (x + 1) co) (some (.int (zI (sumZ (fun j => if sdC co k j = 1 then wtC co k j else 0) (co 6 k).toNat)))) := by
  refine Rd.start (own := RX9) rfl (by decide +kernel) (Nat.le_of_ble_eq_true rfl) ?_
  intro p e s m below meth cd args Q hQ X hr hlk hC hP
  have h_co := PW.right hP
  have h_cm := (PW.left hP)
  have hb0 := hO.b0
  have hbw := hO.bw
  refine v_aload_n X dX9_prosecutionWeight_0 1 rfl 0 rfl ?_
  refine v_iload_n X dX9_prosecutionWeight_1 2 rfl 1 rfl ?_
  refine v_rdV X hC (PW.app h_cm h_co) (c_X9_needCase l E x co hs er fa ss k hO gk k0) kvX9_needCase kiX9_needCase kl_X9_101 rfl rfl (As := [.int (zI k)]) rfl rfl rfl dX9_prosecutionWeight_2 5 rfl ?_
  show V p l e (rmL 3 0 0) s m args below meth cd Q 2 s.heap [] 0 0 5 [(0, .ref x), (1, .int (zI k))] []
  refine v_aload_n X dX9_prosecutionWeight_5 6 rfl 0 rfl ?_
  refine v_getf X hC h_cm inX9 0 rfl rfl 0 (by decide) kf_X9_10 (fun _ h => h) rfl dX9_prosecutionWeight_6 9 rfl ?_
  refine v_iload_n X dX9_prosecutionWeight_9 10 rfl 1 rfl ?_
  refine v_iconst X dX9_prosecutionWeight_10 11 rfl ?_
  refine v_rdS X hC h_co (c_X8_ofSide l E (x + 1) co k 1 hO (by omega) (by omega) (by omega)) kvX8_ofSide ksX8_ofSide kl_X9_217 (As := [.ref (x + 1), .int (zI k), .int (zI 1)]) rfl rfl rfl dX9_prosecutionWeight_11 14 rfl ?_
  show V p l e (rmL 3 0 0) s m args below meth cd Q 2 s.heap [] 0 0 14 [(0, .ref x), (1, .int (zI k))] [.int (zI (sumZ (fun j => if sdC co k j = 1 then wtC co k j else 0) (co 6 k).toNat))]
  have hb_1 := hO.b6 k
  subst hQ; exact v_iret0 X hr hlk dX9_prosecutionWeight_14 rfl
set_option maxHeartbeats 4000000 in
set_option maxRecDepth 20000 in
theorem x_X9_prosecutionWeight_0 (l : Launch) (hl : l.stackTraces = false) (E : Nat → Nat → Nat) (x : Nat) (co : Nat → Int → Int) (hs : Int) (er : Int) (fa : Int) (ss : Int) (k : Int) (hO : OkC co) (gk : Rg k) (nk : ¬ (0 ≤ k ∧ k < co 0 0)) : Tx l yX9_prosecutionWeight cX9_prosecutionWeight 2 (some .int) 7 1 6 E [] [.ref x, .int (zI k)] (fun H => PR E x [(x, .inr (11, [.ref (x + 1), .ref (x + 29), .ref (x + 57), .ref (x + 85), .ref (x + 311), .ref (x + 314), .ref (x + 319), .ref (x + 332), .int (zI hs), .int (zI er), .int (zI fa), .int (zI ss)]))] H ∧ PR E (x + 1) (courtW E (x + 1) co) H) "java/lang/IndexOutOfBoundsException" (fun H => True) := by
  refine Tx.start (own := RX9) rfl (by decide +kernel) (Nat.le_of_ble_eq_true rfl) ?_
  intro p e s m below meth cd args Q hQ X tb hlk hM hPr
  obtain ⟨h_cm, h_co⟩ := hPr
  have hb0 := hO.b0
  have hbw := hO.bw
  refine v_aload_n X dX9_prosecutionWeight_0 1 rfl 0 rfl ?_
  refine v_iload_n X dX9_prosecutionWeight_1 2 rfl 1 rfl ?_
  subst hQ; exact v_txV X tb hlk hM (h_cm.1) (x_X9_needCase_0 l hl E x co hs er fa ss k hO gk nk) kvX9_needCase kiX9_needCase kl_X9_101 (q0 := 0) rfl rfl (As := [.int (zI k)]) rfl rfl rfl rfl dX9_prosecutionWeight_2 (fun q hq => hq.elim) ⟨h_cm, h_co⟩ (fun H1 hF hpo => trivial)
set_option maxHeartbeats 4000000 in
set_option maxRecDepth 20000 in
theorem c_X9_defenceWeight (l : Launch) (E : Nat → Nat → Nat) (x : Nat) (co : Nat → Int → Int) (hs : Int) (er : Int) (fa : Int) (ss : Int) (k : Int) (hO : OkC co) (gk : Rg k) (k0 : 0 ≤ k ∧ k < co 0 0) : Rd l yX9_defenceWeight cX9_defenceWeight 2 (some .int) 3 E [.ref x, .int (zI k)] ([(x, .inr (11, [.ref (x + 1), .ref (x + 29), .ref (x + 57), .ref (x + 85), .ref (x + 311), .ref (x + 314), .ref (x + 319), .ref (x + 332), .int (zI hs), .int (zI er), .int (zI fa), .int (zI ss)]))] ++ courtW E (x + 1) co) (some (.int (zI (sumZ (fun j => if sdC co k j = (-1) then wtC co k j else 0) (co 6 k).toNat)))) := by
  refine Rd.start (own := RX9) rfl (by decide +kernel) (Nat.le_of_ble_eq_true rfl) ?_
  intro p e s m below meth cd args Q hQ X hr hlk hC hP
  have h_co := PW.right hP
  have h_cm := (PW.left hP)
  have hb0 := hO.b0
  have hbw := hO.bw
  refine v_aload_n X dX9_defenceWeight_0 1 rfl 0 rfl ?_
  refine v_iload_n X dX9_defenceWeight_1 2 rfl 1 rfl ?_
  refine v_rdV X hC (PW.app h_cm h_co) (c_X9_needCase l E x co hs er fa ss k hO gk k0) kvX9_needCase kiX9_needCase kl_X9_101 rfl rfl (As := [.int (zI k)]) rfl rfl rfl dX9_defenceWeight_2 5 rfl ?_
  show V p l e (rmL 3 0 0) s m args below meth cd Q 2 s.heap [] 0 0 5 [(0, .ref x), (1, .int (zI k))] []
  refine v_aload_n X dX9_defenceWeight_5 6 rfl 0 rfl ?_
  refine v_getf X hC h_cm inX9 0 rfl rfl 0 (by decide) kf_X9_10 (fun _ h => h) rfl dX9_defenceWeight_6 9 rfl ?_
  refine v_iload_n X dX9_defenceWeight_9 10 rfl 1 rfl ?_
  refine v_iconst X dX9_defenceWeight_10 11 rfl ?_
  refine v_rdS X hC h_co (c_X8_ofSide l E (x + 1) co k (-1) hO (by omega) (by omega) (by omega)) kvX8_ofSide ksX8_ofSide kl_X9_217 (As := [.ref (x + 1), .int (zI k), .int (zI (-1))]) rfl rfl rfl dX9_defenceWeight_11 14 rfl ?_
  show V p l e (rmL 3 0 0) s m args below meth cd Q 2 s.heap [] 0 0 14 [(0, .ref x), (1, .int (zI k))] [.int (zI (sumZ (fun j => if sdC co k j = (-1) then wtC co k j else 0) (co 6 k).toNat))]
  have hb_1 := hO.b6 k
  subst hQ; exact v_iret0 X hr hlk dX9_defenceWeight_14 rfl
set_option maxHeartbeats 4000000 in
set_option maxRecDepth 20000 in
theorem x_X9_defenceWeight_0 (l : Launch) (hl : l.stackTraces = false) (E : Nat → Nat → Nat) (x : Nat) (co : Nat → Int → Int) (hs : Int) (er : Int) (fa : Int) (ss : Int) (k : Int) (hO : OkC co) (gk : Rg k) (nk : ¬ (0 ≤ k ∧ k < co 0 0)) : Tx l yX9_defenceWeight cX9_defenceWeight 2 (some .int) 7 1 6 E [] [.ref x, .int (zI k)] (fun H => PR E x [(x, .inr (11, [.ref (x + 1), .ref (x + 29), .ref (x + 57), .ref (x + 85), .ref (x + 311), .ref (x + 314), .ref (x + 319), .ref (x + 332), .int (zI hs), .int (zI er), .int (zI fa), .int (zI ss)]))] H ∧ PR E (x + 1) (courtW E (x + 1) co) H) "java/lang/IndexOutOfBoundsException" (fun H => True) := by
  refine Tx.start (own := RX9) rfl (by decide +kernel) (Nat.le_of_ble_eq_true rfl) ?_
  intro p e s m below meth cd args Q hQ X tb hlk hM hPr
  obtain ⟨h_cm, h_co⟩ := hPr
  have hb0 := hO.b0
  have hbw := hO.bw
  refine v_aload_n X dX9_defenceWeight_0 1 rfl 0 rfl ?_
  refine v_iload_n X dX9_defenceWeight_1 2 rfl 1 rfl ?_
  subst hQ; exact v_txV X tb hlk hM (h_cm.1) (x_X9_needCase_0 l hl E x co hs er fa ss k hO gk nk) kvX9_needCase kiX9_needCase kl_X9_101 (q0 := 0) rfl rfl (As := [.int (zI k)]) rfl rfl rfl rfl dX9_defenceWeight_2 (fun q hq => hq.elim) ⟨h_cm, h_co⟩ (fun H1 hF hpo => trivial)
set_option maxHeartbeats 4000000 in
set_option maxRecDepth 20000 in
theorem c_X9_margin (l : Launch) (E : Nat → Nat → Nat) (x : Nat) (co : Nat → Int → Int) (hs : Int) (er : Int) (fa : Int) (ss : Int) (k : Int) (hO : OkC co) (gk : Rg k) (k0 : 0 ≤ k ∧ k < co 0 0) : Rd l yX9_margin cX9_margin 2 (some .int) 3 E [.ref x, .int (zI k)] ([(x, .inr (11, [.ref (x + 1), .ref (x + 29), .ref (x + 57), .ref (x + 85), .ref (x + 311), .ref (x + 314), .ref (x + 319), .ref (x + 332), .int (zI hs), .int (zI er), .int (zI fa), .int (zI ss)]))] ++ courtW E (x + 1) co) (some (.int (zI (mgC co k)))) := by
  refine Rd.start (own := RX9) rfl (by decide +kernel) (Nat.le_of_ble_eq_true rfl) ?_
  intro p e s m below meth cd args Q hQ X hr hlk hC hP
  have h_co := PW.right hP
  have h_cm := (PW.left hP)
  have hb0 := hO.b0
  have hbw := hO.bw
  refine v_aload_n X dX9_margin_0 1 rfl 0 rfl ?_
  refine v_iload_n X dX9_margin_1 2 rfl 1 rfl ?_
  refine v_rdV X hC (PW.app h_cm h_co) (c_X9_needCase l E x co hs er fa ss k hO gk k0) kvX9_needCase kiX9_needCase kl_X9_101 rfl rfl (As := [.int (zI k)]) rfl rfl rfl dX9_margin_2 5 rfl ?_
  show V p l e (rmL 3 0 0) s m args below meth cd Q 2 s.heap [] 0 0 5 [(0, .ref x), (1, .int (zI k))] []
  refine v_aload_n X dX9_margin_5 6 rfl 0 rfl ?_
  refine v_getf X hC h_cm inX9 0 rfl rfl 0 (by decide) kf_X9_10 (fun _ h => h) rfl dX9_margin_6 9 rfl ?_
  refine v_iload_n X dX9_margin_9 10 rfl 1 rfl ?_
  refine v_rdS X hC h_co (c_X8_marginByTestimony l E (x + 1) co k hO (by omega) (by omega)) kvX8_marginByTestimony ksX8_marginByTestimony kl_X9_221 (As := [.ref (x + 1), .int (zI k)]) rfl rfl rfl dX9_margin_10 13 rfl ?_
  show V p l e (rmL 3 0 0) s m args below meth cd Q 2 s.heap [] 0 0 13 [(0, .ref x), (1, .int (zI k))] [.int (zI (mgC co k))]
  have hf_1 := mgC_b hO k
  subst hQ; exact v_iret0 X hr hlk dX9_margin_13 rfl
set_option maxHeartbeats 4000000 in
set_option maxRecDepth 20000 in
theorem x_X9_margin_0 (l : Launch) (hl : l.stackTraces = false) (E : Nat → Nat → Nat) (x : Nat) (co : Nat → Int → Int) (hs : Int) (er : Int) (fa : Int) (ss : Int) (k : Int) (hO : OkC co) (gk : Rg k) (nk : ¬ (0 ≤ k ∧ k < co 0 0)) : Tx l yX9_margin cX9_margin 2 (some .int) 7 1 6 E [] [.ref x, .int (zI k)] (fun H => PR E x [(x, .inr (11, [.ref (x + 1), .ref (x + 29), .ref (x + 57), .ref (x + 85), .ref (x + 311), .ref (x + 314), .ref (x + 319), .ref (x + 332), .int (zI hs), .int (zI er), .int (zI fa), .int (zI ss)]))] H ∧ PR E (x + 1) (courtW E (x + 1) co) H) "java/lang/IndexOutOfBoundsException" (fun H => True) := by
  refine Tx.start (own := RX9) rfl (by decide +kernel) (Nat.le_of_ble_eq_true rfl) ?_
  intro p e s m below meth cd args Q hQ X tb hlk hM hPr
  obtain ⟨h_cm, h_co⟩ := hPr
  have hb0 := hO.b0
  have hbw := hO.bw
  refine v_aload_n X dX9_margin_0 1 rfl 0 rfl ?_
  refine v_iload_n X dX9_margin_1 2 rfl 1 rfl ?_
  subst hQ; exact v_txV X tb hlk hM (h_cm.1) (x_X9_needCase_0 l hl E x co hs er fa ss k hO gk nk) kvX9_needCase kiX9_needCase kl_X9_101 (q0 := 0) rfl rfl (As := [.int (zI k)]) rfl rfl rfl rfl dX9_margin_2 (fun q hq => hq.elim) ⟨h_cm, h_co⟩ (fun H1 hF hpo => trivial)
set_option maxHeartbeats 4000000 in
set_option maxRecDepth 20000 in
theorem c_X9_marginByCredibility (l : Launch) (E : Nat → Nat → Nat) (x : Nat) (co : Nat → Int → Int) (hs : Int) (er : Int) (fa : Int) (ss : Int) (k : Int) (hO : OkC co) (gk : Rg k) (k0 : 0 ≤ k ∧ k < co 0 0) : Rd l yX9_marginByCredibility cX9_marginByCredibility 2 (some .int) 4 E [.ref x, .int (zI k)] ([(x, .inr (11, [.ref (x + 1), .ref (x + 29), .ref (x + 57), .ref (x + 85), .ref (x + 311), .ref (x + 314), .ref (x + 319), .ref (x + 332), .int (zI hs), .int (zI er), .int (zI fa), .int (zI ss)]))] ++ courtW E (x + 1) co) (some (.int (zI (mlC co k)))) := by
  refine Rd.start (own := RX9) rfl (by decide +kernel) (Nat.le_of_ble_eq_true rfl) ?_
  intro p e s m below meth cd args Q hQ X hr hlk hC hP
  have h_co := PW.right hP
  have h_cm := (PW.left hP)
  have hb0 := hO.b0
  have hbw := hO.bw
  refine v_aload_n X dX9_marginByCredibility_0 1 rfl 0 rfl ?_
  refine v_iload_n X dX9_marginByCredibility_1 2 rfl 1 rfl ?_
  refine v_rdV X hC (PW.app h_cm h_co) (c_X9_needCase l E x co hs er fa ss k hO gk k0) kvX9_needCase kiX9_needCase kl_X9_101 rfl rfl (As := [.int (zI k)]) rfl rfl rfl dX9_marginByCredibility_2 5 rfl ?_
  show V p l e (rmL 4 0 0) s m args below meth cd Q 2 s.heap [] 0 0 5 [(0, .ref x), (1, .int (zI k))] []
  refine v_aload_n X dX9_marginByCredibility_5 6 rfl 0 rfl ?_
  refine v_getf X hC h_cm inX9 0 rfl rfl 0 (by decide) kf_X9_10 (fun _ h => h) rfl dX9_marginByCredibility_6 9 rfl ?_
  refine v_iload_n X dX9_marginByCredibility_9 10 rfl 1 rfl ?_
  refine v_rdS X hC h_co (c_X8_marginByLevel l E (x + 1) co k hO (by omega) (by omega)) kvX8_marginByLevel ksX8_marginByLevel kl_X9_224 (As := [.ref (x + 1), .int (zI k)]) rfl rfl rfl dX9_marginByCredibility_10 13 rfl ?_
  show V p l e (rmL 4 0 0) s m args below meth cd Q 2 s.heap [] 0 0 13 [(0, .ref x), (1, .int (zI k))] [.int (zI (mlC co k))]
  have hf_1 := mlC_b hO k
  subst hQ; exact v_iret0 X hr hlk dX9_marginByCredibility_13 rfl
set_option maxHeartbeats 4000000 in
set_option maxRecDepth 20000 in
theorem x_X9_marginByCredibility_0 (l : Launch) (hl : l.stackTraces = false) (E : Nat → Nat → Nat) (x : Nat) (co : Nat → Int → Int) (hs : Int) (er : Int) (fa : Int) (ss : Int) (k : Int) (hO : OkC co) (gk : Rg k) (nk : ¬ (0 ≤ k ∧ k < co 0 0)) : Tx l yX9_marginByCredibility cX9_marginByCredibility 2 (some .int) 7 1 6 E [] [.ref x, .int (zI k)] (fun H => PR E x [(x, .inr (11, [.ref (x + 1), .ref (x + 29), .ref (x + 57), .ref (x + 85), .ref (x + 311), .ref (x + 314), .ref (x + 319), .ref (x + 332), .int (zI hs), .int (zI er), .int (zI fa), .int (zI ss)]))] H ∧ PR E (x + 1) (courtW E (x + 1) co) H) "java/lang/IndexOutOfBoundsException" (fun H => True) := by
  refine Tx.start (own := RX9) rfl (by decide +kernel) (Nat.le_of_ble_eq_true rfl) ?_
  intro p e s m below meth cd args Q hQ X tb hlk hM hPr
  obtain ⟨h_cm, h_co⟩ := hPr
  have hb0 := hO.b0
  have hbw := hO.bw
  refine v_aload_n X dX9_marginByCredibility_0 1 rfl 0 rfl ?_
  refine v_iload_n X dX9_marginByCredibility_1 2 rfl 1 rfl ?_
  subst hQ; exact v_txV X tb hlk hM (h_cm.1) (x_X9_needCase_0 l hl E x co hs er fa ss k hO gk nk) kvX9_needCase kiX9_needCase kl_X9_101 (q0 := 0) rfl rfl (As := [.int (zI k)]) rfl rfl rfl rfl dX9_marginByCredibility_2 (fun q hq => hq.elim) ⟨h_cm, h_co⟩ (fun H1 hF hpo => trivial)
set_option maxHeartbeats 4000000 in
set_option maxRecDepth 20000 in
theorem c_X9_firmAnswersToGuilty (l : Launch) (E : Nat → Nat → Nat) (x : Nat) (co : Nat → Int → Int) (hs : Int) (er : Int) (fa : Int) (ss : Int) (k : Int) (w : Int) (hO : OkC co) (gk : Rg k) (gw : Rg w) (k0 : 0 ≤ k ∧ k < co 0 0) (k1 : 0 ≤ w ∧ w < co 0 1) (k2 : 0 < co 9 (k * 8 + w)) (k3 : 0 ≤ faC co k w) : Rd l yX9_firmAnswersToGuilty cX9_firmAnswersToGuilty 4 (some .int) 4 E [.ref x, .int (zI k), .int (zI w)] ([(x, .inr (11, [.ref (x + 1), .ref (x + 29), .ref (x + 57), .ref (x + 85), .ref (x + 311), .ref (x + 314), .ref (x + 319), .ref (x + 332), .int (zI hs), .int (zI er), .int (zI fa), .int (zI ss)]))] ++ courtW E (x + 1) co) (some (.int (zI (faC co k w)))) := by
  refine Rd.start (own := RX9) rfl (by decide +kernel) (Nat.le_of_ble_eq_true rfl) ?_
  intro p e s m below meth cd args Q hQ X hr hlk hC hP
  have h_co := PW.right hP
  have h_cm := (PW.left hP)
  have hb0 := hO.b0
  have hbw := hO.bw
  have hb11 := hO.b11 w
  have hfa := faC_b hO k w
  refine v_aload_n X dX9_firmAnswersToGuilty_0 1 rfl 0 rfl ?_
  refine v_iload_n X dX9_firmAnswersToGuilty_1 2 rfl 1 rfl ?_
  refine v_iload_n X dX9_firmAnswersToGuilty_2 3 rfl 2 rfl ?_
  refine v_rdV X hC (PW.app h_cm h_co) (c_X9_needTestimony l E x co hs er fa ss k w hO gk gw k0 k1 k2) kvX9_needTestimony kiX9_needTestimony kl_X9_147 rfl rfl (As := [.int (zI k), .int (zI w)]) rfl rfl rfl dX9_firmAnswersToGuilty_3 6 rfl ?_
  show V p l e (rmL 4 0 0) s m args below meth cd Q 4 s.heap [] 0 0 6 [(0, .ref x), (1, .int (zI k)), (2, .int (zI w))] []
  refine v_aload_n X dX9_firmAnswersToGuilty_6 7 rfl 0 rfl ?_
  refine v_getf X hC h_cm inX9 0 rfl rfl 0 (by decide) kf_X9_10 (fun _ h => h) rfl dX9_firmAnswersToGuilty_7 10 rfl ?_
  refine v_iload_n X dX9_firmAnswersToGuilty_10 11 rfl 1 rfl ?_
  refine v_iload_n X dX9_firmAnswersToGuilty_11 12 rfl 2 rfl ?_
  refine v_rdS X hC h_co (c_X8_firmAnswersNeeded l E (x + 1) co k w hO (by omega) (by omega) (by omega) (by omega)) kvX8_firmAnswersNeeded ksX8_firmAnswersNeeded kl_X9_227 (As := [.ref (x + 1), .int (zI k), .int (zI w)]) rfl rfl rfl dX9_firmAnswersToGuilty_12 15 rfl ?_
  show V p l e (rmL 4 0 0) s m args below meth cd Q 4 s.heap [] 0 0 15 [(0, .ref x), (1, .int (zI k)), (2, .int (zI w))] [.int (zI (faC co k w))]
  have hf_1 := firstZ_b (fun j => 0 < mgC co k + j * (co 8 (k * 8 + w) * co 9 (k * 8 + w))) (9 - co 11 w + 1).toNat
  have hf_2 := hO.b11 w
  refine v_istore_n X dX9_firmAnswersToGuilty_15 16 rfl rfl (by decide) (L' := [(3, .int (zI (faC co k w))), (0, .ref x), (1, .int (zI k)), (2, .int (zI w))]) rfl ?_
  refine v_iload_n X dX9_firmAnswersToGuilty_16 17 rfl 0 rfl ?_
  refine v_iconst X dX9_firmAnswersToGuilty_17 18 rfl ?_
  refine v_icmp_ne X (by omega) (by omega) dX9_firmAnswersToGuilty_18 21 31 rfl (by decide) (fun c_3 => ?_) (fun c_3 => ?_)
  · skip
    refine v_iload_n X dX9_firmAnswersToGuilty_31 32 rfl 0 rfl ?_
    subst hQ; exact v_iret0 X hr hlk dX9_firmAnswersToGuilty_32 rfl
  · skip
    exfalso; omega
set_option maxHeartbeats 4000000 in
set_option maxRecDepth 20000 in
theorem x_X9_firmAnswersToGuilty_0 (l : Launch) (hl : l.stackTraces = false) (E : Nat → Nat → Nat) (x : Nat) (co : Nat → Int → Int) (hs : Int) (er : Int) (fa : Int) (ss : Int) (k : Int) (w : Int) (hO : OkC co) (gk : Rg k) (gw : Rg w) (nk : ¬ (0 ≤ k ∧ k < co 0 0)) : Tx l yX9_firmAnswersToGuilty cX9_firmAnswersToGuilty 4 (some .int) 8 1 6 E [] [.ref x, .int (zI k), .int (zI w)] (fun H => PR E x [(x, .inr (11, [.ref (x + 1), .ref (x + 29), .ref (x + 57), .ref (x + 85), .ref (x + 311), .ref (x + 314), .ref (x + 319), .ref (x + 332), .int (zI hs), .int (zI er), .int (zI fa), .int (zI ss)]))] H ∧ PR E (x + 1) (courtW E (x + 1) co) H) "java/lang/IndexOutOfBoundsException" (fun H => True) := by
  refine Tx.start (own := RX9) rfl (by decide +kernel) (Nat.le_of_ble_eq_true rfl) ?_
  intro p e s m below meth cd args Q hQ X tb hlk hM hPr
  obtain ⟨h_cm, h_co⟩ := hPr
  have hb0 := hO.b0
  have hbw := hO.bw
  have hb11 := hO.b11 w
  have hfa := faC_b hO k w
  refine v_aload_n X dX9_firmAnswersToGuilty_0 1 rfl 0 rfl ?_
  refine v_iload_n X dX9_firmAnswersToGuilty_1 2 rfl 1 rfl ?_
  refine v_iload_n X dX9_firmAnswersToGuilty_2 3 rfl 2 rfl ?_
  subst hQ; exact v_txV X tb hlk hM (h_cm.1) (x_X9_needTestimony_0 l hl E x co hs er fa ss k w hO gk gw nk) kvX9_needTestimony kiX9_needTestimony kl_X9_147 (q0 := 0) rfl rfl (As := [.int (zI k), .int (zI w)]) rfl rfl rfl rfl dX9_firmAnswersToGuilty_3 (fun q hq => hq.elim) ⟨h_cm, h_co⟩ (fun H1 hF hpo => trivial)
set_option maxHeartbeats 4000000 in
set_option maxRecDepth 20000 in
theorem x_X9_firmAnswersToGuilty_1 (l : Launch) (hl : l.stackTraces = false) (E : Nat → Nat → Nat) (x : Nat) (co : Nat → Int → Int) (hs : Int) (er : Int) (fa : Int) (ss : Int) (k : Int) (w : Int) (hO : OkC co) (gk : Rg k) (gw : Rg w) (k0 : 0 ≤ k ∧ k < co 0 0) (nk : ¬ (0 ≤ w ∧ w < co 0 1)) : Tx l yX9_firmAnswersToGuilty cX9_firmAnswersToGuilty 4 (some .int) 8 1 6 E [] [.ref x, .int (zI k), .int (zI w)] (fun H => PR E x [(x, .inr (11, [.ref (x + 1), .ref (x + 29), .ref (x + 57), .ref (x + 85), .ref (x + 311), .ref (x + 314), .ref (x + 319), .ref (x + 332), .int (zI hs), .int (zI er), .int (zI fa), .int (zI ss)]))] H ∧ PR E (x + 1) (courtW E (x + 1) co) H) "java/lang/IndexOutOfBoundsException" (fun H => True) := by
  refine Tx.start (own := RX9) rfl (by decide +kernel) (Nat.le_of_ble_eq_true rfl) ?_
  intro p e s m below meth cd args Q hQ X tb hlk hM hPr
  obtain ⟨h_cm, h_co⟩ := hPr
  have hb0 := hO.b0
  have hbw := hO.bw
  have hb11 := hO.b11 w
  have hfa := faC_b hO k w
  refine v_aload_n X dX9_firmAnswersToGuilty_0 1 rfl 0 rfl ?_
  refine v_iload_n X dX9_firmAnswersToGuilty_1 2 rfl 1 rfl ?_
  refine v_iload_n X dX9_firmAnswersToGuilty_2 3 rfl 2 rfl ?_
  subst hQ; exact v_txV X tb hlk hM (h_cm.1) (x_X9_needTestimony_1 l hl E x co hs er fa ss k w hO gk gw k0 nk) kvX9_needTestimony kiX9_needTestimony kl_X9_147 (q0 := 0) rfl rfl (As := [.int (zI k), .int (zI w)]) rfl rfl rfl rfl dX9_firmAnswersToGuilty_3 (fun q hq => hq.elim) ⟨h_cm, h_co⟩ (fun H1 hF hpo => trivial)
set_option maxHeartbeats 4000000 in
set_option maxRecDepth 20000 in
theorem x_X9_firmAnswersToGuilty_2 (l : Launch) (hl : l.stackTraces = false) (E : Nat → Nat → Nat) (x : Nat) (co : Nat → Int → Int) (hs : Int) (er : Int) (fa : Int) (ss : Int) (k : Int) (w : Int) (hO : OkC co) (gk : Rg k) (gw : Rg w) (k0 : 0 ≤ k ∧ k < co 0 0) (k1 : 0 ≤ w ∧ w < co 0 1) (nk : ¬ (0 < co 9 (k * 8 + w))) : Tx l yX9_firmAnswersToGuilty cX9_firmAnswersToGuilty 4 (some .int) 7 1 6 E [] [.ref x, .int (zI k), .int (zI w)] (fun H => PR E x [(x, .inr (11, [.ref (x + 1), .ref (x + 29), .ref (x + 57), .ref (x + 85), .ref (x + 311), .ref (x + 314), .ref (x + 319), .ref (x + 332), .int (zI hs), .int (zI er), .int (zI fa), .int (zI ss)]))] H ∧ PR E (x + 1) (courtW E (x + 1) co) H) "java/util/NoSuchElementException" (fun H => True) := by
  refine Tx.start (own := RX9) rfl (by decide +kernel) (Nat.le_of_ble_eq_true rfl) ?_
  intro p e s m below meth cd args Q hQ X tb hlk hM hPr
  obtain ⟨h_cm, h_co⟩ := hPr
  have hb0 := hO.b0
  have hbw := hO.bw
  have hb11 := hO.b11 w
  have hfa := faC_b hO k w
  refine v_aload_n X dX9_firmAnswersToGuilty_0 1 rfl 0 rfl ?_
  refine v_iload_n X dX9_firmAnswersToGuilty_1 2 rfl 1 rfl ?_
  refine v_iload_n X dX9_firmAnswersToGuilty_2 3 rfl 2 rfl ?_
  subst hQ; exact v_txV X tb hlk hM (h_cm.1) (x_X9_needTestimony_2 l hl E x co hs er fa ss k w hO gk gw k0 k1 nk) kvX9_needTestimony kiX9_needTestimony kl_X9_147 (q0 := 0) rfl rfl (As := [.int (zI k), .int (zI w)]) rfl rfl rfl rfl dX9_firmAnswersToGuilty_3 (fun q hq => hq.elim) ⟨h_cm, h_co⟩ (fun H1 hF hpo => trivial)
set_option maxHeartbeats 4000000 in
set_option maxRecDepth 20000 in
theorem x_X9_firmAnswersToGuilty_3 (l : Launch) (hl : l.stackTraces = false) (E : Nat → Nat → Nat) (x : Nat) (co : Nat → Int → Int) (hs : Int) (er : Int) (fa : Int) (ss : Int) (k : Int) (w : Int) (hO : OkC co) (gk : Rg k) (gw : Rg w) (k0 : 0 ≤ k ∧ k < co 0 0) (k1 : 0 ≤ w ∧ w < co 0 1) (k2 : 0 < co 9 (k * 8 + w)) (nk : ¬ (0 ≤ faC co k w)) : Tx l yX9_firmAnswersToGuilty cX9_firmAnswersToGuilty 4 (some .int) 6 1 6 E [] [.ref x, .int (zI k), .int (zI w)] (fun H => PR E x [(x, .inr (11, [.ref (x + 1), .ref (x + 29), .ref (x + 57), .ref (x + 85), .ref (x + 311), .ref (x + 314), .ref (x + 319), .ref (x + 332), .int (zI hs), .int (zI er), .int (zI fa), .int (zI ss)]))] H ∧ PR E (x + 1) (courtW E (x + 1) co) H) "java/util/NoSuchElementException" (fun H => True) := by
  refine Tx.start (own := RX9) rfl (by decide +kernel) (Nat.le_of_ble_eq_true rfl) ?_
  intro p e s m below meth cd args Q hQ X tb hlk hM hPr
  obtain ⟨h_cm, h_co⟩ := hPr
  have hb0 := hO.b0
  have hbw := hO.bw
  have hb11 := hO.b11 w
  have hfa := faC_b hO k w
  refine v_aload_n X dX9_firmAnswersToGuilty_0 1 rfl 0 rfl ?_
  refine v_iload_n X dX9_firmAnswersToGuilty_1 2 rfl 1 rfl ?_
  refine v_iload_n X dX9_firmAnswersToGuilty_2 3 rfl 2 rfl ?_
  refine v_rdV X hM.C (PW.app h_cm.1 h_co.1) (c_X9_needTestimony l E x co hs er fa ss k w hO gk gw k0 k1 k2) kvX9_needTestimony kiX9_needTestimony kl_X9_147 rfl rfl (As := [.int (zI k), .int (zI w)]) rfl rfl rfl dX9_firmAnswersToGuilty_3 6 rfl ?_
  show V p l e (rmL 6 1 6) s m args below meth cd Q 4 s.heap [] 0 0 6 [(0, .ref x), (1, .int (zI k)), (2, .int (zI w))] []
  refine v_aload_n X dX9_firmAnswersToGuilty_6 7 rfl 0 rfl ?_
  refine v_getf X hM.C h_cm.1 inX9 0 rfl rfl 0 (by decide) kf_X9_10 (fun _ h => h) rfl dX9_firmAnswersToGuilty_7 10 rfl ?_
  refine v_iload_n X dX9_firmAnswersToGuilty_10 11 rfl 1 rfl ?_
  refine v_iload_n X dX9_firmAnswersToGuilty_11 12 rfl 2 rfl ?_
  refine v_rdS X hM.C h_co.1 (c_X8_firmAnswersNeeded l E (x + 1) co k w hO (by omega) (by omega) (by omega) (by omega)) kvX8_firmAnswersNeeded ksX8_firmAnswersNeeded kl_X9_227 (As := [.ref (x + 1), .int (zI k), .int (zI w)]) rfl rfl rfl dX9_firmAnswersToGuilty_12 15 rfl ?_
  show V p l e (rmL 6 1 6) s m args below meth cd Q 4 s.heap [] 0 0 15 [(0, .ref x), (1, .int (zI k)), (2, .int (zI w))] [.int (zI (faC co k w))]
  have hf_1 := firstZ_b (fun j => 0 < mgC co k + j * (co 8 (k * 8 + w) * co 9 (k * 8 + w))) (9 - co 11 w + 1).toNat
  have hf_2 := hO.b11 w
  refine v_istore_n X dX9_firmAnswersToGuilty_15 16 rfl rfl (by decide) (L' := [(3, .int (zI (faC co k w))), (0, .ref x), (1, .int (zI k)), (2, .int (zI w))]) rfl ?_
  refine v_iload_n X dX9_firmAnswersToGuilty_16 17 rfl 0 rfl ?_
  refine v_iconst X dX9_firmAnswersToGuilty_17 18 rfl ?_
  refine v_icmp_ne X (by omega) (by omega) dX9_firmAnswersToGuilty_18 21 31 rfl (by decide) (fun c_3 => ?_) (fun c_3 => ?_)
  · skip
    refine v_iload_n X dX9_firmAnswersToGuilty_31 32 rfl 0 rfl ?_
    exfalso; omega
  · skip
    subst hQ; exact v_throw X hl tb hlk hM xt_NSE xk_NSE 20 rfl dX9_firmAnswersToGuilty_21 dX9_firmAnswersToGuilty_24 dX9_firmAnswersToGuilty_25 dX9_firmAnswersToGuilty_27 dX9_firmAnswersToGuilty_30 rfl (fun H1 hF => trivial)
set_option maxHeartbeats 4000000 in
set_option maxRecDepth 20000 in
theorem c_X9_sentence (l : Launch) (E : Nat → Nat → Nat) (x : Nat) (co : Nat → Int → Int) (hs : Int) (er : Int) (fa : Int) (ss : Int) (d : Int) (hO : OkC co) (gd : Rg d) (k0 : 0 ≤ d ∧ d < 6) : Rd l yX9_sentence cX9_sentence 2 (some .int) 2 E [.ref x, .int (zI d)] ([(x, .inr (11, [.ref (x + 1), .ref (x + 29), .ref (x + 57), .ref (x + 85), .ref (x + 311), .ref (x + 314), .ref (x + 319), .ref (x + 332), .int (zI hs), .int (zI er), .int (zI fa), .int (zI ss)]))] ++ courtW E (x + 1) co) (some (.int (zI (co 12 d)))) := by
  refine Rd.start (own := RX9) rfl (by decide +kernel) (Nat.le_of_ble_eq_true rfl) ?_
  intro p e s m below meth cd args Q hQ X hr hlk hC hP
  have h_co := PW.right hP
  have h_cm := (PW.left hP)
  have hb0 := hO.b0
  have hbw := hO.bw
  refine v_iload_n X dX9_sentence_0 1 rfl 1 rfl ?_
  refine v_rdS X hC (ws0 E s.heap) (c_X9_needDefendant l E d gd k0) kvX9_needDefendant ksX9_needDefendant kl_X9_232 (As := [.int (zI d)]) rfl rfl rfl dX9_sentence_1 4 rfl ?_
  show V p l e (rmL 2 0 0) s m args below meth cd Q 2 s.heap [] 0 0 4 [(0, .ref x), (1, .int (zI d))] []
  refine v_aload_n X dX9_sentence_4 5 rfl 0 rfl ?_
  refine v_getf X hC h_cm inX9 0 rfl rfl 0 (by decide) kf_X9_10 (fun _ h => h) rfl dX9_sentence_5 8 rfl ?_
  refine v_getfN X hC h_co inX0 0 rfl rfl 15 (by decide) kfn_X9_235 (fun _ h => h) rfl dX9_sentence_8 11 rfl ?_
  refine v_iload_n X dX9_sentence_11 12 rfl 1 rfl ?_
  refine v_rdV X hC (PW.part h_co 23 2 (wc := rowW E (x + 24) 6 (co 12)) rfl) (c_X6_get l E (x + 24) 6 (co 12) d (by omega) (by omega) (by omega)) kvX6_get kiX6_get kl_X9_109 rfl rfl (As := [.int (zI d)]) rfl rfl rfl dX9_sentence_12 15 rfl ?_
  show V p l e (rmL 2 0 0) s m args below meth cd Q 2 s.heap [] 0 0 15 [(0, .ref x), (1, .int (zI d))] [.int (zI (co 12 d))]
  have hb_1 := hO.b12 d
  subst hQ; exact v_iret0 X hr hlk dX9_sentence_15 rfl
set_option maxHeartbeats 4000000 in
set_option maxRecDepth 20000 in
theorem x_X9_sentence_0 (l : Launch) (hl : l.stackTraces = false) (E : Nat → Nat → Nat) (x : Nat) (co : Nat → Int → Int) (hs : Int) (er : Int) (fa : Int) (ss : Int) (d : Int) (hO : OkC co) (gd : Rg d) (nk : ¬ (0 ≤ d ∧ d < 6)) : Tx l yX9_sentence cX9_sentence 2 (some .int) 7 1 6 E [] [.ref x, .int (zI d)] (fun H => PR E x [(x, .inr (11, [.ref (x + 1), .ref (x + 29), .ref (x + 57), .ref (x + 85), .ref (x + 311), .ref (x + 314), .ref (x + 319), .ref (x + 332), .int (zI hs), .int (zI er), .int (zI fa), .int (zI ss)]))] H ∧ PR E (x + 1) (courtW E (x + 1) co) H) "java/lang/IllegalArgumentException" (fun H => True) := by
  refine Tx.start (own := RX9) rfl (by decide +kernel) (Nat.le_of_ble_eq_true rfl) ?_
  intro p e s m below meth cd args Q hQ X tb hlk hM hPr
  obtain ⟨h_cm, h_co⟩ := hPr
  have hb0 := hO.b0
  have hbw := hO.bw
  refine v_iload_n X dX9_sentence_0 1 rfl 1 rfl ?_
  subst hQ; exact v_txS X tb hlk hM (x_X9_needDefendant_0 l hl E d gd nk) kvX9_needDefendant ksX9_needDefendant kl_X9_232 (As := [.int (zI d)]) rfl rfl rfl rfl dX9_sentence_1 (fun q hq => hq.elim) trivial (fun H1 hF hpo => trivial)
set_option maxHeartbeats 4000000 in
set_option maxRecDepth 20000 in
theorem c_X9_sentenceByCases (l : Launch) (E : Nat → Nat → Nat) (x : Nat) (co : Nat → Int → Int) (hs : Int) (er : Int) (fa : Int) (ss : Int) (d : Int) (hO : OkC co) (gd : Rg d) (k0 : 0 ≤ d ∧ d < 6) : Rd l yX9_sentenceByCases cX9_sentenceByCases 2 (some .int) 3 E [.ref x, .int (zI d)] ([(x, .inr (11, [.ref (x + 1), .ref (x + 29), .ref (x + 57), .ref (x + 85), .ref (x + 311), .ref (x + 314), .ref (x + 319), .ref (x + 332), .int (zI hs), .int (zI er), .int (zI fa), .int (zI ss)]))] ++ courtW E (x + 1) co) (some (.int (zI (sumZ (fun j => if co 1 j = d ∧ ¬ co 4 j = 0 then co 2 j + 1 else 0) (co 0 0).toNat)))) := by
  refine Rd.start (own := RX9) rfl (by decide +kernel) (Nat.le_of_ble_eq_true rfl) ?_
  intro p e s m below meth cd args Q hQ X hr hlk hC hP
  have h_co := PW.right hP
  have h_cm := (PW.left hP)
  have hb0 := hO.b0
  have hbw := hO.bw
  refine v_iload_n X dX9_sentenceByCases_0 1 rfl 1 rfl ?_
  refine v_rdS X hC (ws0 E s.heap) (c_X9_needDefendant l E d gd k0) kvX9_needDefendant ksX9_needDefendant kl_X9_232 (As := [.int (zI d)]) rfl rfl rfl dX9_sentenceByCases_1 4 rfl ?_
  show V p l e (rmL 3 0 0) s m args below meth cd Q 2 s.heap [] 0 0 4 [(0, .ref x), (1, .int (zI d))] []
  refine v_aload_n X dX9_sentenceByCases_4 5 rfl 0 rfl ?_
  refine v_getf X hC h_cm inX9 0 rfl rfl 0 (by decide) kf_X9_10 (fun _ h => h) rfl dX9_sentenceByCases_5 8 rfl ?_
  refine v_iload_n X dX9_sentenceByCases_8 9 rfl 1 rfl ?_
  refine v_rdV X hC h_co (c_X0_addedSentence l E (x + 1) co d hO (by omega) (by omega)) kvX0_addedSentence kiX0_addedSentence kl_X9_238 rfl rfl (As := [.int (zI d)]) rfl rfl rfl dX9_sentenceByCases_9 12 rfl ?_
  show V p l e (rmL 3 0 0) s m args below meth cd Q 2 s.heap [] 0 0 12 [(0, .ref x), (1, .int (zI d))] [.int (zI (sumZ (fun j => if co 1 j = d ∧ ¬ co 4 j = 0 then co 2 j + 1 else 0) (co 0 0).toNat))]
  have hb_1 := hO.b0
  subst hQ; exact v_iret0 X hr hlk dX9_sentenceByCases_12 rfl
set_option maxHeartbeats 4000000 in
set_option maxRecDepth 20000 in
theorem x_X9_sentenceByCases_0 (l : Launch) (hl : l.stackTraces = false) (E : Nat → Nat → Nat) (x : Nat) (co : Nat → Int → Int) (hs : Int) (er : Int) (fa : Int) (ss : Int) (d : Int) (hO : OkC co) (gd : Rg d) (nk : ¬ (0 ≤ d ∧ d < 6)) : Tx l yX9_sentenceByCases cX9_sentenceByCases 2 (some .int) 7 1 6 E [] [.ref x, .int (zI d)] (fun H => PR E x [(x, .inr (11, [.ref (x + 1), .ref (x + 29), .ref (x + 57), .ref (x + 85), .ref (x + 311), .ref (x + 314), .ref (x + 319), .ref (x + 332), .int (zI hs), .int (zI er), .int (zI fa), .int (zI ss)]))] H ∧ PR E (x + 1) (courtW E (x + 1) co) H) "java/lang/IllegalArgumentException" (fun H => True) := by
  refine Tx.start (own := RX9) rfl (by decide +kernel) (Nat.le_of_ble_eq_true rfl) ?_
  intro p e s m below meth cd args Q hQ X tb hlk hM hPr
  obtain ⟨h_cm, h_co⟩ := hPr
  have hb0 := hO.b0
  have hbw := hO.bw
  refine v_iload_n X dX9_sentenceByCases_0 1 rfl 1 rfl ?_
  subst hQ; exact v_txS X tb hlk hM (x_X9_needDefendant_0 l hl E d gd nk) kvX9_needDefendant ksX9_needDefendant kl_X9_232 (As := [.int (zI d)]) rfl rfl rfl rfl dX9_sentenceByCases_1 (fun q hq => hq.elim) trivial (fun H1 hF hpo => trivial)
set_option maxHeartbeats 4000000 in
set_option maxRecDepth 20000 in
theorem c_X9_caseOf (l : Launch) (E : Nat → Nat → Nat) (x : Nat) (co : Nat → Int → Int) (hs : Int) (er : Int) (fa : Int) (ss : Int) (d : Int) (o : Int) (hO : OkC co) (gd : Rg d) (go : Rg o) (k0 : (0 ≤ d ∧ d < 6) ∧ (0 ≤ o ∧ o < 5)) (k1 : 0 ≤ firstZ (fun j => co 1 j = d ∧ co 2 j = o) (co 0 0).toNat) : Rd l yX9_caseOf cX9_caseOf 4 (some .int) 2 E [.ref x, .int (zI d), .int (zI o)] ([(x, .inr (11, [.ref (x + 1), .ref (x + 29), .ref (x + 57), .ref (x + 85), .ref (x + 311), .ref (x + 314), .ref (x + 319), .ref (x + 332), .int (zI hs), .int (zI er), .int (zI fa), .int (zI ss)]))] ++ courtW E (x + 1) co) (some (.int (zI (firstZ (fun j => co 1 j = d ∧ co 2 j = o) (co 0 0).toNat)))) := by
  refine Rd.start (own := RX9) rfl (by decide +kernel) (Nat.le_of_ble_eq_true rfl) ?_
  intro p e s m below meth cd args Q hQ X hr hlk hC hP
  have h_co := PW.right hP
  have h_cm := (PW.left hP)
  have hb0 := hO.b0
  have hbw := hO.bw
  refine v_iload_n X dX9_caseOf_0 1 rfl 1 rfl ?_
  refine v_rdS X hC (ws0 E s.heap) (c_X9_isDefendant l E d gd) kvX9_isDefendant ksX9_isDefendant kl_X9_78 (As := [.int (zI d)]) rfl rfl rfl dX9_caseOf_1 4 rfl ?_
  show V p l e (rmL 2 0 0) s m args below meth cd Q 4 s.heap [] 0 0 4 [(0, .ref x), (1, .int (zI d)), (2, .int (zI o))] [.int (zI (bz (0 ≤ d ∧ d < 6)))]
  refine v_bif_eq X dX9_caseOf_4 7 14 rfl (by decide) (fun c_1 => ?_) (fun c_1 => ?_)
  · skip
    exfalso; omega
  · skip
    refine v_iload_n X dX9_caseOf_7 8 rfl 2 rfl ?_
    refine v_rdS X hC (ws0 E s.heap) (c_X9_isOffence l E o go) kvX9_isOffence ksX9_isOffence kl_X9_82 (As := [.int (zI o)]) rfl rfl rfl dX9_caseOf_8 11 rfl ?_
    show V p l e (rmL 2 0 0) s m args below meth cd Q 4 s.heap [] 0 0 11 [(0, .ref x), (1, .int (zI d)), (2, .int (zI o))] [.int (zI (bz (0 ≤ o ∧ o < 5)))]
    refine v_bif_ne X dX9_caseOf_11 14 24 rfl (by decide) (fun c_2 => ?_) (fun c_2 => ?_)
    · skip
      refine v_aload_n X dX9_caseOf_24 25 rfl 0 rfl ?_
      refine v_getf X hC h_cm inX9 0 rfl rfl 0 (by decide) kf_X9_10 (fun _ h => h) rfl dX9_caseOf_25 28 rfl ?_
      refine v_iload_n X dX9_caseOf_28 29 rfl 1 rfl ?_
      refine v_iload_n X dX9_caseOf_29 30 rfl 2 rfl ?_
      refine v_rdV X hC h_co (c_X0_caseAgainst l E (x + 1) co d o hO (by omega) (by omega) (by omega) (by omega)) kvX0_caseAgainst kiX0_caseAgainst kl_X9_92 rfl rfl (As := [.int (zI d), .int (zI o)]) rfl rfl rfl dX9_caseOf_30 33 rfl ?_
      show V p l e (rmL 2 0 0) s m args below meth cd Q 4 s.heap [] 0 0 33 [(0, .ref x), (1, .int (zI d)), (2, .int (zI o))] [.int (zI (firstZ (fun j => co 1 j = d ∧ co 2 j = o) (co 0 0).toNat))]
      have hb_3 := hO.b0
      have hf_4 := firstZ_b (fun j => co 1 j = d ∧ co 2 j = o) (co 0 0).toNat
      refine v_istore_n X dX9_caseOf_33 34 rfl rfl (by decide) (L' := [(3, .int (zI (firstZ (fun j => co 1 j = d ∧ co 2 j = o) (co 0 0).toNat))), (0, .ref x), (1, .int (zI d)), (2, .int (zI o))]) rfl ?_
      refine v_iload_n X dX9_caseOf_34 35 rfl 0 rfl ?_
      refine v_iconst X dX9_caseOf_35 36 rfl ?_
      refine v_icmp_ne X (by omega) (by omega) dX9_caseOf_36 39 49 rfl (by decide) (fun c_5 => ?_) (fun c_5 => ?_)
      · skip
        refine v_iload_n X dX9_caseOf_49 50 rfl 0 rfl ?_
        subst hQ; exact v_iret0 X hr hlk dX9_caseOf_50 rfl
      · skip
        exfalso; omega
    · skip
      exfalso; omega
set_option maxHeartbeats 4000000 in
set_option maxRecDepth 20000 in
theorem x_X9_caseOf_0 (l : Launch) (hl : l.stackTraces = false) (E : Nat → Nat → Nat) (x : Nat) (co : Nat → Int → Int) (hs : Int) (er : Int) (fa : Int) (ss : Int) (d : Int) (o : Int) (hO : OkC co) (gd : Rg d) (go : Rg o) (nk : ¬ ((0 ≤ d ∧ d < 6) ∧ (0 ≤ o ∧ o < 5))) : Tx l yX9_caseOf cX9_caseOf 4 (some .int) 6 1 6 E [] [.ref x, .int (zI d), .int (zI o)] (fun H => PR E x [(x, .inr (11, [.ref (x + 1), .ref (x + 29), .ref (x + 57), .ref (x + 85), .ref (x + 311), .ref (x + 314), .ref (x + 319), .ref (x + 332), .int (zI hs), .int (zI er), .int (zI fa), .int (zI ss)]))] H ∧ PR E (x + 1) (courtW E (x + 1) co) H) "java/lang/IllegalArgumentException" (fun H => True) := by
  refine Tx.start (own := RX9) rfl (by decide +kernel) (Nat.le_of_ble_eq_true rfl) ?_
  intro p e s m below meth cd args Q hQ X tb hlk hM hPr
  obtain ⟨h_cm, h_co⟩ := hPr
  have hb0 := hO.b0
  have hbw := hO.bw
  refine v_iload_n X dX9_caseOf_0 1 rfl 1 rfl ?_
  refine v_rdS X hM.C (ws0 E s.heap) (c_X9_isDefendant l E d gd) kvX9_isDefendant ksX9_isDefendant kl_X9_78 (As := [.int (zI d)]) rfl rfl rfl dX9_caseOf_1 4 rfl ?_
  show V p l e (rmL 6 1 6) s m args below meth cd Q 4 s.heap [] 0 0 4 [(0, .ref x), (1, .int (zI d)), (2, .int (zI o))] [.int (zI (bz (0 ≤ d ∧ d < 6)))]
  refine v_bif_eq X dX9_caseOf_4 7 14 rfl (by decide) (fun c_1 => ?_) (fun c_1 => ?_)
  · skip
    subst hQ; exact v_throw X hl tb hlk hM xt_IAE xk_IAE 11 rfl dX9_caseOf_14 dX9_caseOf_17 dX9_caseOf_18 dX9_caseOf_20 dX9_caseOf_23 rfl (fun H1 hF => trivial)
  · skip
    refine v_iload_n X dX9_caseOf_7 8 rfl 2 rfl ?_
    refine v_rdS X hM.C (ws0 E s.heap) (c_X9_isOffence l E o go) kvX9_isOffence ksX9_isOffence kl_X9_82 (As := [.int (zI o)]) rfl rfl rfl dX9_caseOf_8 11 rfl ?_
    show V p l e (rmL 6 1 6) s m args below meth cd Q 4 s.heap [] 0 0 11 [(0, .ref x), (1, .int (zI d)), (2, .int (zI o))] [.int (zI (bz (0 ≤ o ∧ o < 5)))]
    refine v_bif_ne X dX9_caseOf_11 14 24 rfl (by decide) (fun c_2 => ?_) (fun c_2 => ?_)
    · skip
      refine v_aload_n X dX9_caseOf_24 25 rfl 0 rfl ?_
      refine v_getf X hM.C h_cm.1 inX9 0 rfl rfl 0 (by decide) kf_X9_10 (fun _ h => h) rfl dX9_caseOf_25 28 rfl ?_
      refine v_iload_n X dX9_caseOf_28 29 rfl 1 rfl ?_
      refine v_iload_n X dX9_caseOf_29 30 rfl 2 rfl ?_
      refine v_rdV X hM.C h_co.1 (c_X0_caseAgainst l E (x + 1) co d o hO (by omega) (by omega) (by omega) (by omega)) kvX0_caseAgainst kiX0_caseAgainst kl_X9_92 rfl rfl (As := [.int (zI d), .int (zI o)]) rfl rfl rfl dX9_caseOf_30 33 rfl ?_
      show V p l e (rmL 6 1 6) s m args below meth cd Q 4 s.heap [] 0 0 33 [(0, .ref x), (1, .int (zI d)), (2, .int (zI o))] [.int (zI (firstZ (fun j => co 1 j = d ∧ co 2 j = o) (co 0 0).toNat))]
      have hb_3 := hO.b0
      have hf_4 := firstZ_b (fun j => co 1 j = d ∧ co 2 j = o) (co 0 0).toNat
      refine v_istore_n X dX9_caseOf_33 34 rfl rfl (by decide) (L' := [(3, .int (zI (firstZ (fun j => co 1 j = d ∧ co 2 j = o) (co 0 0).toNat))), (0, .ref x), (1, .int (zI d)), (2, .int (zI o))]) rfl ?_
      refine v_iload_n X dX9_caseOf_34 35 rfl 0 rfl ?_
      refine v_iconst X dX9_caseOf_35 36 rfl ?_
      refine v_icmp_ne X (by omega) (by omega) dX9_caseOf_36 39 49 rfl (by decide) (fun c_5 => ?_) (fun c_5 => ?_)
      · skip
        refine v_iload_n X dX9_caseOf_49 50 rfl 0 rfl ?_
        exfalso; omega
      · skip
        exfalso; omega
    · skip
      subst hQ; exact v_throw X hl tb hlk hM xt_IAE xk_IAE 11 rfl dX9_caseOf_14 dX9_caseOf_17 dX9_caseOf_18 dX9_caseOf_20 dX9_caseOf_23 rfl (fun H1 hF => trivial)
set_option maxHeartbeats 4000000 in
set_option maxRecDepth 20000 in
theorem x_X9_caseOf_1 (l : Launch) (hl : l.stackTraces = false) (E : Nat → Nat → Nat) (x : Nat) (co : Nat → Int → Int) (hs : Int) (er : Int) (fa : Int) (ss : Int) (d : Int) (o : Int) (hO : OkC co) (gd : Rg d) (go : Rg o) (k0 : (0 ≤ d ∧ d < 6) ∧ (0 ≤ o ∧ o < 5)) (nk : ¬ (0 ≤ firstZ (fun j => co 1 j = d ∧ co 2 j = o) (co 0 0).toNat)) : Tx l yX9_caseOf cX9_caseOf 4 (some .int) 6 1 6 E [] [.ref x, .int (zI d), .int (zI o)] (fun H => PR E x [(x, .inr (11, [.ref (x + 1), .ref (x + 29), .ref (x + 57), .ref (x + 85), .ref (x + 311), .ref (x + 314), .ref (x + 319), .ref (x + 332), .int (zI hs), .int (zI er), .int (zI fa), .int (zI ss)]))] H ∧ PR E (x + 1) (courtW E (x + 1) co) H) "java/util/NoSuchElementException" (fun H => True) := by
  refine Tx.start (own := RX9) rfl (by decide +kernel) (Nat.le_of_ble_eq_true rfl) ?_
  intro p e s m below meth cd args Q hQ X tb hlk hM hPr
  obtain ⟨h_cm, h_co⟩ := hPr
  have hb0 := hO.b0
  have hbw := hO.bw
  refine v_iload_n X dX9_caseOf_0 1 rfl 1 rfl ?_
  refine v_rdS X hM.C (ws0 E s.heap) (c_X9_isDefendant l E d gd) kvX9_isDefendant ksX9_isDefendant kl_X9_78 (As := [.int (zI d)]) rfl rfl rfl dX9_caseOf_1 4 rfl ?_
  show V p l e (rmL 6 1 6) s m args below meth cd Q 4 s.heap [] 0 0 4 [(0, .ref x), (1, .int (zI d)), (2, .int (zI o))] [.int (zI (bz (0 ≤ d ∧ d < 6)))]
  refine v_bif_eq X dX9_caseOf_4 7 14 rfl (by decide) (fun c_1 => ?_) (fun c_1 => ?_)
  · skip
    exfalso; omega
  · skip
    refine v_iload_n X dX9_caseOf_7 8 rfl 2 rfl ?_
    refine v_rdS X hM.C (ws0 E s.heap) (c_X9_isOffence l E o go) kvX9_isOffence ksX9_isOffence kl_X9_82 (As := [.int (zI o)]) rfl rfl rfl dX9_caseOf_8 11 rfl ?_
    show V p l e (rmL 6 1 6) s m args below meth cd Q 4 s.heap [] 0 0 11 [(0, .ref x), (1, .int (zI d)), (2, .int (zI o))] [.int (zI (bz (0 ≤ o ∧ o < 5)))]
    refine v_bif_ne X dX9_caseOf_11 14 24 rfl (by decide) (fun c_2 => ?_) (fun c_2 => ?_)
    · skip
      refine v_aload_n X dX9_caseOf_24 25 rfl 0 rfl ?_
      refine v_getf X hM.C h_cm.1 inX9 0 rfl rfl 0 (by decide) kf_X9_10 (fun _ h => h) rfl dX9_caseOf_25 28 rfl ?_
      refine v_iload_n X dX9_caseOf_28 29 rfl 1 rfl ?_
      refine v_iload_n X dX9_caseOf_29 30 rfl 2 rfl ?_
      refine v_rdV X hM.C h_co.1 (c_X0_caseAgainst l E (x + 1) co d o hO (by omega) (by omega) (by omega) (by omega)) kvX0_caseAgainst kiX0_caseAgainst kl_X9_92 rfl rfl (As := [.int (zI d), .int (zI o)]) rfl rfl rfl dX9_caseOf_30 33 rfl ?_
      show V p l e (rmL 6 1 6) s m args below meth cd Q 4 s.heap [] 0 0 33 [(0, .ref x), (1, .int (zI d)), (2, .int (zI o))] [.int (zI (firstZ (fun j => co 1 j = d ∧ co 2 j = o) (co 0 0).toNat))]
      have hb_3 := hO.b0
      have hf_4 := firstZ_b (fun j => co 1 j = d ∧ co 2 j = o) (co 0 0).toNat
      refine v_istore_n X dX9_caseOf_33 34 rfl rfl (by decide) (L' := [(3, .int (zI (firstZ (fun j => co 1 j = d ∧ co 2 j = o) (co 0 0).toNat))), (0, .ref x), (1, .int (zI d)), (2, .int (zI o))]) rfl ?_
      refine v_iload_n X dX9_caseOf_34 35 rfl 0 rfl ?_
      refine v_iconst X dX9_caseOf_35 36 rfl ?_
      refine v_icmp_ne X (by omega) (by omega) dX9_caseOf_36 39 49 rfl (by decide) (fun c_5 => ?_) (fun c_5 => ?_)
      · skip
        refine v_iload_n X dX9_caseOf_49 50 rfl 0 rfl ?_
        exfalso; omega
      · skip
        subst hQ; exact v_throw X hl tb hlk hM xt_NSE xk_NSE 12 rfl dX9_caseOf_39 dX9_caseOf_42 dX9_caseOf_43 dX9_caseOf_45 dX9_caseOf_48 rfl (fun H1 hF => trivial)
    · skip
      exfalso; omega
set_option maxHeartbeats 4000000 in
set_option maxRecDepth 20000 in
theorem c_X9_docketLength (l : Launch) (E : Nat → Nat → Nat) (x : Nat) (co : Nat → Int → Int) (hs : Int) (er : Int) (fa : Int) (ss : Int) (hO : OkC co) : Rd l yX9_docketLength cX9_docketLength 1 (some .int) 3 E [.ref x] ([(x, .inr (11, [.ref (x + 1), .ref (x + 29), .ref (x + 57), .ref (x + 85), .ref (x + 311), .ref (x + 314), .ref (x + 319), .ref (x + 332), .int (zI hs), .int (zI er), .int (zI fa), .int (zI ss)]))] ++ courtW E (x + 1) co) (some (.int (zI (sumZ (fun j => bz (co 3 j = 0)) (co 0 0).toNat)))) := by
  refine Rd.start (own := RX9) rfl (by decide +kernel) (Nat.le_of_ble_eq_true rfl) ?_
  intro p e s m below meth cd args Q hQ X hr hlk hC hP
  have h_co := PW.right hP
  have h_cm := (PW.left hP)
  have hb0 := hO.b0
  have hbw := hO.bw
  refine v_aload_n X dX9_docketLength_0 1 rfl 0 rfl ?_
  refine v_getf X hC h_cm inX9 0 rfl rfl 0 (by decide) kf_X9_10 (fun _ h => h) rfl dX9_docketLength_1 4 rfl ?_
  refine v_iconst X dX9_docketLength_4 5 rfl ?_
  refine v_rdV X hC h_co (c_X0_countIn l E (x + 1) co 0 hO (by omega)) kvX0_countIn kiX0_countIn kl_X9_241 rfl rfl (As := [.int (zI 0)]) rfl rfl rfl dX9_docketLength_5 8 rfl ?_
  show V p l e (rmL 3 0 0) s m args below meth cd Q 1 s.heap [] 0 0 8 [(0, .ref x)] [.int (zI (sumZ (fun j => bz (co 3 j = 0)) (co 0 0).toNat))]
  have hb_1 := hO.b0
  have hf_2 := cnt_b (fun j => co 3 j = 0) (co 0 0).toNat
  subst hQ; exact v_iret0 X hr hlk dX9_docketLength_8 rfl
set_option maxHeartbeats 4000000 in
set_option maxRecDepth 20000 in
theorem c_X9_closedCount (l : Launch) (E : Nat → Nat → Nat) (x : Nat) (co : Nat → Int → Int) (hs : Int) (er : Int) (fa : Int) (ss : Int) (hO : OkC co) : Rd l yX9_closedCount cX9_closedCount 1 (some .int) 3 E [.ref x] ([(x, .inr (11, [.ref (x + 1), .ref (x + 29), .ref (x + 57), .ref (x + 85), .ref (x + 311), .ref (x + 314), .ref (x + 319), .ref (x + 332), .int (zI hs), .int (zI er), .int (zI fa), .int (zI ss)]))] ++ courtW E (x + 1) co) (some (.int (zI (sumZ (fun j => bz (co 3 j = 2)) (co 0 0).toNat)))) := by
  refine Rd.start (own := RX9) rfl (by decide +kernel) (Nat.le_of_ble_eq_true rfl) ?_
  intro p e s m below meth cd args Q hQ X hr hlk hC hP
  have h_co := PW.right hP
  have h_cm := (PW.left hP)
  have hb0 := hO.b0
  have hbw := hO.bw
  refine v_aload_n X dX9_closedCount_0 1 rfl 0 rfl ?_
  refine v_getf X hC h_cm inX9 0 rfl rfl 0 (by decide) kf_X9_10 (fun _ h => h) rfl dX9_closedCount_1 4 rfl ?_
  refine v_iconst X dX9_closedCount_4 5 rfl ?_
  refine v_rdV X hC h_co (c_X0_countIn l E (x + 1) co 2 hO (by omega)) kvX0_countIn kiX0_countIn kl_X9_241 rfl rfl (As := [.int (zI 2)]) rfl rfl rfl dX9_closedCount_5 8 rfl ?_
  show V p l e (rmL 3 0 0) s m args below meth cd Q 1 s.heap [] 0 0 8 [(0, .ref x)] [.int (zI (sumZ (fun j => bz (co 3 j = 2)) (co 0 0).toNat))]
  have hb_1 := hO.b0
  have hf_2 := cnt_b (fun j => co 3 j = 2) (co 0 0).toNat
  subst hQ; exact v_iret0 X hr hlk dX9_closedCount_8 rfl
set_option maxHeartbeats 4000000 in
set_option maxRecDepth 20000 in
theorem c_X9_guiltyCount (l : Launch) (E : Nat → Nat → Nat) (x : Nat) (co : Nat → Int → Int) (hs : Int) (er : Int) (fa : Int) (ss : Int) (hO : OkC co) : Rd l yX9_guiltyCount cX9_guiltyCount 1 (some .int) 3 E [.ref x] ([(x, .inr (11, [.ref (x + 1), .ref (x + 29), .ref (x + 57), .ref (x + 85), .ref (x + 311), .ref (x + 314), .ref (x + 319), .ref (x + 332), .int (zI hs), .int (zI er), .int (zI fa), .int (zI ss)]))] ++ courtW E (x + 1) co) (some (.int (zI (sumZ (fun j => bz (¬ co 4 j = 0)) (co 0 0).toNat)))) := by
  refine Rd.start (own := RX9) rfl (by decide +kernel) (Nat.le_of_ble_eq_true rfl) ?_
  intro p e s m below meth cd args Q hQ X hr hlk hC hP
  have h_co := PW.right hP
  have h_cm := (PW.left hP)
  have hb0 := hO.b0
  have hbw := hO.bw
  refine v_aload_n X dX9_guiltyCount_0 1 rfl 0 rfl ?_
  refine v_getf X hC h_cm inX9 0 rfl rfl 0 (by decide) kf_X9_10 (fun _ h => h) rfl dX9_guiltyCount_1 4 rfl ?_
  refine v_rdV X hC h_co (c_X0_countGuilty l E (x + 1) co hO) kvX0_countGuilty kiX0_countGuilty kl_X9_257 rfl rfl (As := []) rfl rfl rfl dX9_guiltyCount_4 7 rfl ?_
  show V p l e (rmL 3 0 0) s m args below meth cd Q 1 s.heap [] 0 0 7 [(0, .ref x)] [.int (zI (sumZ (fun j => bz (¬ co 4 j = 0)) (co 0 0).toNat))]
  have hb_1 := hO.b0
  have hf_2 := cnt_b (fun j => ¬ co 4 j = 0) (co 0 0).toNat
  subst hQ; exact v_iret0 X hr hlk dX9_guiltyCount_7 rfl
set_option maxHeartbeats 4000000 in
set_option maxRecDepth 20000 in
theorem c_X9_docketPosition (l : Launch) (E : Nat → Nat → Nat) (x : Nat) (co : Nat → Int → Int) (hs : Int) (er : Int) (fa : Int) (ss : Int) (k : Int) (hO : OkC co) (gk : Rg k) (k0 : 0 ≤ k ∧ k < co 0 0) (k1 : co 3 k = 0) : Rd l yX9_docketPosition cX9_docketPosition 2 (some .int) 3 E [.ref x, .int (zI k)] ([(x, .inr (11, [.ref (x + 1), .ref (x + 29), .ref (x + 57), .ref (x + 85), .ref (x + 311), .ref (x + 314), .ref (x + 319), .ref (x + 332), .int (zI hs), .int (zI er), .int (zI fa), .int (zI ss)]))] ++ courtW E (x + 1) co) (some (.int (zI (sumZ (fun j => bz (co 3 j = 0 ∧ cbC co j k)) (co 0 0).toNat)))) := by
  refine Rd.start (own := RX9) rfl (by decide +kernel) (Nat.le_of_ble_eq_true rfl) ?_
  intro p e s m below meth cd args Q hQ X hr hlk hC hP
  have h_co := PW.right hP
  have h_cm := (PW.left hP)
  have hb0 := hO.b0
  have hbw := hO.bw
  refine v_aload_n X dX9_docketPosition_0 1 rfl 0 rfl ?_
  refine v_iload_n X dX9_docketPosition_1 2 rfl 1 rfl ?_
  refine v_rdV X hC (PW.app h_cm h_co) (c_X9_needCase l E x co hs er fa ss k hO gk k0) kvX9_needCase kiX9_needCase kl_X9_101 rfl rfl (As := [.int (zI k)]) rfl rfl rfl dX9_docketPosition_2 5 rfl ?_
  show V p l e (rmL 3 0 0) s m args below meth cd Q 2 s.heap [] 0 0 5 [(0, .ref x), (1, .int (zI k))] []
  refine v_aload_n X dX9_docketPosition_5 6 rfl 0 rfl ?_
  refine v_getf X hC h_cm inX9 0 rfl rfl 0 (by decide) kf_X9_10 (fun _ h => h) rfl dX9_docketPosition_6 9 rfl ?_
  refine v_iconst X dX9_docketPosition_9 10 rfl ?_
  refine v_iload_n X dX9_docketPosition_10 11 rfl 1 rfl ?_
  refine v_rdV X hC h_co (c_X0_isIn l E (x + 1) co 0 k hO (by omega) (by omega) (by omega)) kvX0_isIn kiX0_isIn kl_X9_118 rfl rfl (As := [.int (zI 0), .int (zI k)]) rfl rfl rfl dX9_docketPosition_11 14 rfl ?_
  show V p l e (rmL 3 0 0) s m args below meth cd Q 2 s.heap [] 0 0 14 [(0, .ref x), (1, .int (zI k))] [.int (zI (bz (co 3 k = 0)))]
  refine v_bif_ne X dX9_docketPosition_14 17 27 rfl (by decide) (fun c_1 => ?_) (fun c_1 => ?_)
  · skip
    refine v_aload_n X dX9_docketPosition_27 28 rfl 0 rfl ?_
    refine v_getf X hC h_cm inX9 0 rfl rfl 0 (by decide) kf_X9_10 (fun _ h => h) rfl dX9_docketPosition_28 31 rfl ?_
    refine v_iload_n X dX9_docketPosition_31 32 rfl 1 rfl ?_
    refine v_rdV X hC h_co (c_X0_openCasesBefore l E (x + 1) co k hO (by omega) (by omega)) kvX0_openCasesBefore kiX0_openCasesBefore kl_X9_254 rfl rfl (As := [.int (zI k)]) rfl rfl rfl dX9_docketPosition_32 35 rfl ?_
    show V p l e (rmL 3 0 0) s m args below meth cd Q 2 s.heap [] 0 0 35 [(0, .ref x), (1, .int (zI k))] [.int (zI (sumZ (fun j => bz (co 3 j = 0 ∧ cbC co j k)) (co 0 0).toNat))]
    have hb_2 := hO.b0
    have hf_3 := cnt_b (fun j => co 3 j = 0 ∧ cbC co j k) (co 0 0).toNat
    subst hQ; exact v_iret0 X hr hlk dX9_docketPosition_35 rfl
  · skip
    exfalso; omega
set_option maxHeartbeats 4000000 in
set_option maxRecDepth 20000 in
theorem x_X9_docketPosition_0 (l : Launch) (hl : l.stackTraces = false) (E : Nat → Nat → Nat) (x : Nat) (co : Nat → Int → Int) (hs : Int) (er : Int) (fa : Int) (ss : Int) (k : Int) (hO : OkC co) (gk : Rg k) (nk : ¬ (0 ≤ k ∧ k < co 0 0)) : Tx l yX9_docketPosition cX9_docketPosition 2 (some .int) 7 1 6 E [] [.ref x, .int (zI k)] (fun H => PR E x [(x, .inr (11, [.ref (x + 1), .ref (x + 29), .ref (x + 57), .ref (x + 85), .ref (x + 311), .ref (x + 314), .ref (x + 319), .ref (x + 332), .int (zI hs), .int (zI er), .int (zI fa), .int (zI ss)]))] H ∧ PR E (x + 1) (courtW E (x + 1) co) H) "java/lang/IndexOutOfBoundsException" (fun H => True) := by
  refine Tx.start (own := RX9) rfl (by decide +kernel) (Nat.le_of_ble_eq_true rfl) ?_
  intro p e s m below meth cd args Q hQ X tb hlk hM hPr
  obtain ⟨h_cm, h_co⟩ := hPr
  have hb0 := hO.b0
  have hbw := hO.bw
  refine v_aload_n X dX9_docketPosition_0 1 rfl 0 rfl ?_
  refine v_iload_n X dX9_docketPosition_1 2 rfl 1 rfl ?_
  subst hQ; exact v_txV X tb hlk hM (h_cm.1) (x_X9_needCase_0 l hl E x co hs er fa ss k hO gk nk) kvX9_needCase kiX9_needCase kl_X9_101 (q0 := 0) rfl rfl (As := [.int (zI k)]) rfl rfl rfl rfl dX9_docketPosition_2 (fun q hq => hq.elim) ⟨h_cm, h_co⟩ (fun H1 hF hpo => trivial)
set_option maxHeartbeats 4000000 in
set_option maxRecDepth 20000 in
theorem x_X9_docketPosition_1 (l : Launch) (hl : l.stackTraces = false) (E : Nat → Nat → Nat) (x : Nat) (co : Nat → Int → Int) (hs : Int) (er : Int) (fa : Int) (ss : Int) (k : Int) (hO : OkC co) (gk : Rg k) (k0 : 0 ≤ k ∧ k < co 0 0) (nk : ¬ (co 3 k = 0)) : Tx l yX9_docketPosition cX9_docketPosition 2 (some .int) 6 1 6 E [] [.ref x, .int (zI k)] (fun H => PR E x [(x, .inr (11, [.ref (x + 1), .ref (x + 29), .ref (x + 57), .ref (x + 85), .ref (x + 311), .ref (x + 314), .ref (x + 319), .ref (x + 332), .int (zI hs), .int (zI er), .int (zI fa), .int (zI ss)]))] H ∧ PR E (x + 1) (courtW E (x + 1) co) H) "java/lang/IllegalStateException" (fun H => True) := by
  refine Tx.start (own := RX9) rfl (by decide +kernel) (Nat.le_of_ble_eq_true rfl) ?_
  intro p e s m below meth cd args Q hQ X tb hlk hM hPr
  obtain ⟨h_cm, h_co⟩ := hPr
  have hb0 := hO.b0
  have hbw := hO.bw
  refine v_aload_n X dX9_docketPosition_0 1 rfl 0 rfl ?_
  refine v_iload_n X dX9_docketPosition_1 2 rfl 1 rfl ?_
  refine v_rdV X hM.C (PW.app h_cm.1 h_co.1) (c_X9_needCase l E x co hs er fa ss k hO gk k0) kvX9_needCase kiX9_needCase kl_X9_101 rfl rfl (As := [.int (zI k)]) rfl rfl rfl dX9_docketPosition_2 5 rfl ?_
  show V p l e (rmL 6 1 6) s m args below meth cd Q 2 s.heap [] 0 0 5 [(0, .ref x), (1, .int (zI k))] []
  refine v_aload_n X dX9_docketPosition_5 6 rfl 0 rfl ?_
  refine v_getf X hM.C h_cm.1 inX9 0 rfl rfl 0 (by decide) kf_X9_10 (fun _ h => h) rfl dX9_docketPosition_6 9 rfl ?_
  refine v_iconst X dX9_docketPosition_9 10 rfl ?_
  refine v_iload_n X dX9_docketPosition_10 11 rfl 1 rfl ?_
  refine v_rdV X hM.C h_co.1 (c_X0_isIn l E (x + 1) co 0 k hO (by omega) (by omega) (by omega)) kvX0_isIn kiX0_isIn kl_X9_118 rfl rfl (As := [.int (zI 0), .int (zI k)]) rfl rfl rfl dX9_docketPosition_11 14 rfl ?_
  show V p l e (rmL 6 1 6) s m args below meth cd Q 2 s.heap [] 0 0 14 [(0, .ref x), (1, .int (zI k))] [.int (zI (bz (co 3 k = 0)))]
  refine v_bif_ne X dX9_docketPosition_14 17 27 rfl (by decide) (fun c_1 => ?_) (fun c_1 => ?_)
  · skip
    refine v_aload_n X dX9_docketPosition_27 28 rfl 0 rfl ?_
    refine v_getf X hM.C h_cm.1 inX9 0 rfl rfl 0 (by decide) kf_X9_10 (fun _ h => h) rfl dX9_docketPosition_28 31 rfl ?_
    refine v_iload_n X dX9_docketPosition_31 32 rfl 1 rfl ?_
    refine v_rdV X hM.C h_co.1 (c_X0_openCasesBefore l E (x + 1) co k hO (by omega) (by omega)) kvX0_openCasesBefore kiX0_openCasesBefore kl_X9_254 rfl rfl (As := [.int (zI k)]) rfl rfl rfl dX9_docketPosition_32 35 rfl ?_
    show V p l e (rmL 6 1 6) s m args below meth cd Q 2 s.heap [] 0 0 35 [(0, .ref x), (1, .int (zI k))] [.int (zI (sumZ (fun j => bz (co 3 j = 0 ∧ cbC co j k)) (co 0 0).toNat))]
    have hb_2 := hO.b0
    have hf_3 := cnt_b (fun j => co 3 j = 0 ∧ cbC co j k) (co 0 0).toNat
    exfalso; omega
  · skip
    subst hQ; exact v_throw X hl tb hlk hM xt_ISE xk_ISE 23 rfl dX9_docketPosition_17 dX9_docketPosition_20 dX9_docketPosition_21 dX9_docketPosition_23 dX9_docketPosition_26 rfl (fun H1 hF => trivial)
set_option maxHeartbeats 4000000 in
set_option maxRecDepth 20000 in
theorem c_X9_mostSentenced (l : Launch) (E : Nat → Nat → Nat) (x : Nat) (co : Nat → Int → Int) (hs : Int) (er : Int) (fa : Int) (ss : Int) (hO : OkC co) : Rd l yX9_mostSentenced cX9_mostSentenced 3 (some .int) 1 E [.ref x] ([(x, .inr (11, [.ref (x + 1), .ref (x + 29), .ref (x + 57), .ref (x + 85), .ref (x + 311), .ref (x + 314), .ref (x + 319), .ref (x + 332), .int (zI hs), .int (zI er), .int (zI fa), .int (zI ss)]))] ++ courtW E (x + 1) co) (some (.int (zI (amx (co 12) 6)))) := by
  refine Rd.start (own := RX9) rfl (by decide +kernel) (Nat.le_of_ble_eq_true rfl) ?_
  intro p e s m below meth cd args Q hQ X hr hlk hC hP
  have h_co := PW.right hP
  have h_cm := (PW.left hP)
  have hb0 := hO.b0
  have hbw := hO.bw
  refine v_iconst X dX9_mostSentenced_0 1 rfl ?_
  refine v_istore_n X dX9_mostSentenced_1 2 rfl rfl (by decide) (L' := [(1, .int (zI 0)), (0, .ref x)]) rfl ?_
  refine v_iconst X dX9_mostSentenced_2 3 rfl ?_
  refine v_istore_n X dX9_mostSentenced_3 4 rfl rfl (by decide) (L' := [(2, .int (zI 1)), (1, .int (zI 0)), (0, .ref x)]) rfl ?_
  refine V_L (L' := [(2, .int (zI (0 + 1))), (1, .int (zI (amx (co 12) (0 + 1)))), (0, .ref x)]) (LC (vz (by rfl)) (LC (vz (by simp [amx])) (LC rfl rfl))) ?_
  refine up_loop 5 (P := fun (i : Nat) => V p l e (rmL 1 0 0) s m args below meth cd Q 3 s.heap [] 0 0 4 [(2, .int (zI ((i : Int) + 1))), (1, .int (zI (amx (co 12) (i + 1)))), (0, .ref x)] []) (fun i hi_i ih_i => ?_)
  have hbx := amx_b (co 12) (i + 1)
  refine v_iload_n X dX9_mostSentenced_4 5 rfl 0 rfl ?_
  refine v_bipush X dX9_mostSentenced_5 7 rfl rfl ?_
  refine v_icmp_ge X (by omega) (by omega) dX9_mostSentenced_7 10 43 rfl (by decide) (fun c_1 => ?_) (fun c_1 => ?_)
  · skip
    refine v_iload_n X dX9_mostSentenced_43 44 rfl 1 rfl ?_
    subst hQ; exact v_iret0 X hr hlk dX9_mostSentenced_44 (by rw [show i = 5 by omega])
  · skip
    refine v_aload_n X dX9_mostSentenced_10 11 rfl 2 rfl ?_
    refine v_getf X hC h_cm inX9 0 rfl rfl 0 (by decide) kf_X9_10 (fun _ h => h) rfl dX9_mostSentenced_11 14 rfl ?_
    refine v_getfN X hC h_co inX0 0 rfl rfl 15 (by decide) kfn_X9_235 (fun _ h => h) rfl dX9_mostSentenced_14 17 rfl ?_
    refine v_iload_n X dX9_mostSentenced_17 18 rfl 0 rfl ?_
    refine v_rdV X hC (PW.part h_co 23 2 (wc := rowW E (x + 24) 6 (co 12)) rfl) (c_X6_get l E (x + 24) 6 (co 12) ((i : Int) + 1) (by omega) (by omega) (by omega)) kvX6_get kiX6_get kl_X9_109 rfl rfl (As := [.int (zI ((i : Int) + 1))]) rfl rfl rfl dX9_mostSentenced_18 21 rfl ?_
    show V p l e (rmL 1 0 0) s m args below meth cd Q 3 s.heap [] 0 0 21 [(2, .int (zI ((i : Int) + 1))), (1, .int (zI (amx (co 12) (i + 1)))), (0, .ref x)] [.int (zI (co 12 ((i : Int) + 1)))]
    have hb_2 := hO.b12 ((i : Int) + 1)
    refine v_aload_n X dX9_mostSentenced_21 22 rfl 2 rfl ?_
    refine v_getf X hC h_cm inX9 0 rfl rfl 0 (by decide) kf_X9_10 (fun _ h => h) rfl dX9_mostSentenced_22 25 rfl ?_
    refine v_getfN X hC h_co inX0 0 rfl rfl 15 (by decide) kfn_X9_235 (fun _ h => h) rfl dX9_mostSentenced_25 28 rfl ?_
    refine v_iload_n X dX9_mostSentenced_28 29 rfl 1 rfl ?_
    refine v_rdV X hC (PW.part h_co 23 2 (wc := rowW E (x + 24) 6 (co 12)) rfl) (c_X6_get l E (x + 24) 6 (co 12) (amx (co 12) (i + 1)) (by omega) (by omega) (by omega)) kvX6_get kiX6_get kl_X9_109 rfl rfl (As := [.int (zI (amx (co 12) (i + 1)))]) rfl rfl rfl dX9_mostSentenced_29 32 rfl ?_
    show V p l e (rmL 1 0 0) s m args below meth cd Q 3 s.heap [] 0 0 32 [(2, .int (zI ((i : Int) + 1))), (1, .int (zI (amx (co 12) (i + 1)))), (0, .ref x)] [.int (zI (co 12 (amx (co 12) (i + 1)))), .int (zI (co 12 ((i : Int) + 1)))]
    have hb_3 := hO.b12 (amx (co 12) (i + 1))
    refine v_icmp_le X (by omega) (by omega) dX9_mostSentenced_32 35 37 rfl (by decide) (fun c_4 => ?_) (fun c_4 => ?_)
    · skip
      refine v_iinc X dX9_mostSentenced_37 40 rfl 0 rfl (by decide) (L' := [(2, .int (zI ((i : Int) + 1 + 1))), (1, .int (zI (amx (co 12) (i + 1)))), (0, .ref x)]) rfl ?_
      refine v_goto X dX9_mostSentenced_40 4 (by decide) ?_
      exact V_L (L' := [(2, .int (zI (((i + 1 : Nat) : Int) + 1))), (1, .int (zI (amx (co 12) ((i + 1) + 1)))), (0, .ref x)]) (LC (vz (by omega)) (LC (vz (by rw [amx_s (co 12) (i + 1)]; first | (rw [if_pos (by assumption)]; rfl) | rw [if_neg (Int.not_lt.mpr (by assumption))])) (LC rfl rfl))) (ih_i (by omega))
    · skip
      refine v_iload_n X dX9_mostSentenced_35 36 rfl 0 rfl ?_
      refine v_istore_n X dX9_mostSentenced_36 37 rfl rfl (by decide) (L' := [(1, .int (zI ((i : Int) + 1))), (2, .int (zI ((i : Int) + 1))), (0, .ref x)]) rfl ?_
      refine v_iinc X dX9_mostSentenced_37 40 rfl 1 rfl (by decide) (L' := [(2, .int (zI ((i : Int) + 1 + 1))), (1, .int (zI ((i : Int) + 1))), (0, .ref x)]) rfl ?_
      refine v_goto X dX9_mostSentenced_40 4 (by decide) ?_
      exact V_L (L' := [(2, .int (zI (((i + 1 : Nat) : Int) + 1))), (1, .int (zI (amx (co 12) ((i + 1) + 1)))), (0, .ref x)]) (LC (vz (by omega)) (LC (vz (by rw [amx_s (co 12) (i + 1)]; first | (rw [if_pos (by assumption)]; rfl) | rw [if_neg (Int.not_lt.mpr (by assumption))])) (LC rfl rfl))) (ih_i (by omega))
