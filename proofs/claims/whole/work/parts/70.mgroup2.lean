theorem bit_1 (a b : Nat) : (a >>> b) &&& 1 = if a.testBit b then 1 else 0 := by
  rw [Nat.and_one_is_mod, Nat.shiftRight_eq_div_pow, Nat.testBit_eq_decide_div_mod_eq]
  by_cases h : a / 2 ^ b % 2 = 1
  · rw [h]
    simp
  · have h0 : a / 2 ^ b % 2 = 0 := by omega
    rw [h0]
    simp
/-- the set of a witness's group, by the reference -/
abbrev gpB (co : Nat → Int → Int) (w y : Int) : Prop := (gpS co (Int.toNat w) 8).testBit (Int.toNat y) = true
def GpI (co : Nat → Int → Int) : Prop := (∀ w y : Int, 0 ≤ w → w < co 0 1 → 0 ≤ y → y < co 0 1 → (gpB co w y ↔ rtF (co 13) 8 w = rtF (co 13) 8 y)) ∧ (∀ w y : Int, 0 ≤ w → w < co 0 1 → co 0 1 ≤ y → y < 8 → ¬ gpB co w y) ∧ sumZ (fun k => bz (gpS co (Int.toNat k) 8 &&& (2 ^ Int.toNat k - 1) = 0)) (co 0 1).toNat = sumZ (fun j => bz (co 13 j = j)) (co 0 1).toNat
theorem gp_c {co : Nat → Int → Int} (h : GpI co) {w y : Int} (w0 : 0 ≤ w) (w1 : w < co 0 1) (y0 : 0 ≤ y) (y1 : y < co 0 1) : (((gpS co (Int.toNat w) 8 >>> Int.toNat y) &&& 1 : Nat) : Int) = 1 ↔ rtF (co 13) 8 w = rtF (co 13) 8 y := by
  have hh := h.1 w y w0 w1 y0 y1
  rw [bit_1]
  by_cases q : gpB co w y
  · rw [if_pos q]
    exact ⟨fun _ => hh.mp q, fun _ => rfl⟩
  · rw [if_neg q]
    exact ⟨fun z => absurd z (by decide), fun z => absurd (hh.mpr z) q⟩
theorem sumZ_split (f : Int → Int) {a : Nat} : ∀ {b : Nat}, a ≤ b → (∀ i : Int, (a : Int) ≤ i → i < b → f i = 0) → sumZ f b = sumZ f a
  | 0, h, _ => by rw [show a = 0 by omega]
  | b + 1, h, hz => by
    by_cases e : a = b + 1
    · rw [e]
    · rw [sumZ_s, sumZ_split f (a := a) (b := b) (by omega) (fun i h0 h1 => hz i h0 (by omega)), hz b (by omega) (by omega)]
      omega
theorem gp_z {co : Nat → Int → Int} (hO : OkC co) (h : GpI co) {w : Int} (w0 : 0 ≤ w) (w1 : w < co 0 1) : sumZ (fun k => (((gpS co (Int.toNat w) 8 >>> Int.toNat k) &&& 1 : Nat) : Int)) 8 = sumZ (fun j => bz (rtF (co 13) 8 w = rtF (co 13) 8 j)) (co 0 1).toNat := by
  have hw := hO.bw
  rw [sumZ_split (a := (co 0 1).toNat) (b := 8) _ (by omega) (fun i h0 h1 => by
    have := h.2.1 w i w0 w1 (by omega) (by omega)
    rw [bit_1, if_neg this]
    rfl)]
  refine sumZ_c (fun i h0 h1 => ?_)
  have hh := h.1 w i w0 w1 h0 (by omega)
  rw [bit_1]
  by_cases q : gpB co w i
  · rw [if_pos q, bz_t (hh.mp q)]
    rfl
  · rw [if_neg q, bz_f (fun z => q (hh.mpr z))]
    rfl
set_option maxHeartbeats 4000000 in
set_option maxRecDepth 20000 in
theorem c_X10_areConnected (l : Launch) (E : Nat → Nat → Nat) (b : Nat) (mo : Nat → Int → Int) (co : Nat → Int → Int) (w : Int) (y : Int) (hO : OkC co) (hR : RelC co (mo 1)) (hI : TsI co) (hG : GpI co) (gw : Rg w) (gy : Rg y) (p0 : 0 ≤ w ∧ w < co 0 1) (p1 : 0 ≤ y ∧ y < co 0 1) : Mu l yX10_areConnected cX10_areConnected 3 (some .boolean) 2 0 0 E [(b, 5)] [.ref b, .int (zI w), .int (zI y)] (fun H => PR E b (modelW E b mo) H) (fun rv H => rv = some (.int (zI (bz (rtF (co 13) 8 w = rtF (co 13) 8 y)))) ∧ PR E b (modelW E b (updC mo 0 (updZ (mo 0) 0 0))) H) := by
  refine Mu.start (own := RX10) rfl (by decide +kernel) (Nat.le_of_ble_eq_true rfl) ?_
  intro p e s m below meth cd args Q hQ X hr hlk hnm hM hPr
  have h_mo := hPr
  have hb0 := hO.b0
  have hbw := hO.bw
  have hr0 := hR.s0
  have hr1 := hR.s1
  have hgc := gp_c hG (w := w) (y := y) (by omega) (by omega) (by omega) (by omega)
  have hsa := Nat.and_le_right (n := gpS co (Int.toNat w) 8 >>> Int.toNat y) (m := 1)
  refine v_aload_n X dX10_areConnected_0 1 rfl 0 rfl ?_
  refine v_aload_n X dX10_areConnected_1 2 rfl 0 rfl ?_
  refine v_iload_n X dX10_areConnected_2 3 rfl 1 rfl ?_
  refine v_rdV X hM.C h_mo.1 (c_X10_isWitness l E b mo co w hO hR gw) kvX10_isWitness kiX10_isWitness kl_X10_95 rfl rfl (As := [.int (zI w)]) rfl rfl rfl dX10_areConnected_3 6 rfl ?_
  show V p l e (rmL 2 0 0) s m args below meth cd Q 3 s.heap [] 0 0 6 [(0, .ref b), (1, .int (zI w)), (2, .int (zI y))] [.int (zI (bz (0 ≤ w ∧ w < co 0 1))), .ref b]
  refine v_bif_eq X dX10_areConnected_6 9 21 rfl (by decide) (fun c_1 => ?_) (fun c_1 => ?_)
  · skip
    exfalso; first | omega | contradiction
  · skip
    refine v_aload_n X dX10_areConnected_9 10 rfl 0 rfl ?_
    refine v_iload_n X dX10_areConnected_10 11 rfl 2 rfl ?_
    refine v_rdV X hM.C h_mo.1 (c_X10_isWitness l E b mo co y hO hR gy) kvX10_isWitness kiX10_isWitness kl_X10_95 rfl rfl (As := [.int (zI y)]) rfl rfl rfl dX10_areConnected_11 14 rfl ?_
    show V p l e (rmL 2 0 0) s m args below meth cd Q 3 s.heap [] 0 0 14 [(0, .ref b), (1, .int (zI w)), (2, .int (zI y))] [.int (zI (bz (0 ≤ y ∧ y < co 0 1))), .ref b]
    refine v_bif_eq X dX10_areConnected_14 17 21 rfl (by decide) (fun c_2 => ?_) (fun c_2 => ?_)
    · skip
      exfalso; first | omega | contradiction
    · skip
      refine v_iconst X dX10_areConnected_17 18 rfl ?_
      refine v_goto X dX10_areConnected_18 22 (by decide) ?_
      refine v_muV X hM (h_mo.1) (c_X10_isFine_1 l E b mo) kvX10_isFine kiX10_isFine kl_X10_124 (q0 := 0) rfl rfl (As := [.int (zI 1)]) rfl rfl rfl dX10_areConnected_22 25 rfl (k' := 0) (n' := 0) rfl rfl (fsI (fun q q1 q2 => (Or.inl (fsH (by omega) (by omega))))) h_mo (fun rv H3 lo3 hM hF hpo => ?_)
      obtain ⟨rfl, hw_0⟩ := hpo
      have h_mo : PR E b (modelW E b (updC mo 0 (updZ (mo 0) 0 0))) H3 := hw_0
      show V p l e (rmL 2 0 0) s m args below meth cd Q 3 H3 lo3 0 0 25 [(0, .ref b), (1, .int (zI w)), (2, .int (zI y))] [.int (zI 1)]
      refine v_if_eq X (by omega) dX10_areConnected_25 28 45 rfl (by decide) (fun c_4 => ?_) (fun c_4 => ?_)
      · skip
        exfalso; omega
      · skip
        refine v_aload_n X dX10_areConnected_28 29 rfl 0 rfl ?_
        refine v_iload_n X dX10_areConnected_29 30 rfl 1 rfl ?_
        refine v_rdV X hM.C h_mo.1 (c_X10_groupOf l E b (updC mo 0 (updZ (mo 0) 0 0)) co w hO hR hI (by omega) (by omega)) kvX10_groupOf kiX10_groupOf kl_X10_137 rfl rfl (As := [.int (zI w)]) rfl rfl rfl dX10_areConnected_30 33 rfl ?_
        show V p l e (rmL 2 0 0) s m args below meth cd Q 3 H3 lo3 0 0 33 [(0, .ref b), (1, .int (zI w)), (2, .int (zI y))] [.int (zI ((gpS co (Int.toNat w) 8 : Nat) : Int))]
        have hf_5 := gpS_lt hO (show Int.toNat w < 8 by omega) 8
        refine v_iload_n X dX10_areConnected_33 34 rfl 2 rfl ?_
        refine v_ishr8 (a := gpS co (Int.toNat w) 8) X (gpS_lt hO (by omega) _) (by omega) (by omega) dX10_areConnected_34 35 rfl ?_
        refine v_iconst X dX10_areConnected_35 36 rfl ?_
        refine v_iand8 (a := (gpS co (Int.toNat w) 8) >>> Int.toNat y) (b := 1) X (Nat.lt_of_le_of_lt (Nat.shiftRight_le _ _) (gpS_lt hO (by omega) _)) (by decide) dX10_areConnected_36 37 rfl ?_
        refine v_iconst X dX10_areConnected_37 38 rfl ?_
        refine v_icmp_ne X (by omega) (by omega) dX10_areConnected_38 41 45 rfl (by decide) (fun c_6 => ?_) (fun c_6 => ?_)
        · skip
          refine v_iconst X dX10_areConnected_45 46 rfl ?_
          subst hQ; exact m_zret X hr hlk hM dX10_areConnected_46 rfl (by omega) ⟨(sv (bz_f (by omega))), h_mo⟩
        · skip
          refine v_iconst X dX10_areConnected_41 42 rfl ?_
          refine v_goto X dX10_areConnected_42 46 (by decide) ?_
          subst hQ; exact m_zret X hr hlk hM dX10_areConnected_46 rfl (by omega) ⟨(sv (bz_t (by omega))), h_mo⟩
set_option maxHeartbeats 4000000 in
set_option maxRecDepth 20000 in
theorem c_X10_areConnected_0 (l : Launch) (E : Nat → Nat → Nat) (b : Nat) (mo : Nat → Int → Int) (co : Nat → Int → Int) (w : Int) (y : Int) (hO : OkC co) (hR : RelC co (mo 1)) (hI : TsI co) (hG : GpI co) (gw : Rg w) (gy : Rg y) (nk : ¬ (0 ≤ w ∧ w < co 0 1)) : Mu l yX10_areConnected cX10_areConnected 3 (some .boolean) 2 0 0 E [(b, 5)] [.ref b, .int (zI w), .int (zI y)] (fun H => PR E b (modelW E b mo) H) (fun rv H => rv = some (.int (zI 0)) ∧ PR E b (modelW E b (updC mo 0 (updZ (mo 0) 0 1))) H) := by
  refine Mu.start (own := RX10) rfl (by decide +kernel) (Nat.le_of_ble_eq_true rfl) ?_
  intro p e s m below meth cd args Q hQ X hr hlk hnm hM hPr
  have h_mo := hPr
  have hb0 := hO.b0
  have hbw := hO.bw
  have hr0 := hR.s0
  have hr1 := hR.s1
  refine v_aload_n X dX10_areConnected_0 1 rfl 0 rfl ?_
  refine v_aload_n X dX10_areConnected_1 2 rfl 0 rfl ?_
  refine v_iload_n X dX10_areConnected_2 3 rfl 1 rfl ?_
  refine v_rdV X hM.C h_mo.1 (c_X10_isWitness l E b mo co w hO hR gw) kvX10_isWitness kiX10_isWitness kl_X10_95 rfl rfl (As := [.int (zI w)]) rfl rfl rfl dX10_areConnected_3 6 rfl ?_
  show V p l e (rmL 2 0 0) s m args below meth cd Q 3 s.heap [] 0 0 6 [(0, .ref b), (1, .int (zI w)), (2, .int (zI y))] [.int (zI (bz (0 ≤ w ∧ w < co 0 1))), .ref b]
  refine v_bif_eq X dX10_areConnected_6 9 21 rfl (by decide) (fun c_1 => ?_) (fun c_1 => ?_)
  · skip
    refine v_iconst X dX10_areConnected_21 22 rfl ?_
    refine v_muV X hM (h_mo.1) (c_X10_isFine_0 l E b mo) kvX10_isFine kiX10_isFine kl_X10_124 (q0 := 0) rfl rfl (As := [.int (zI 0)]) rfl rfl rfl dX10_areConnected_22 25 rfl (k' := 0) (n' := 0) rfl rfl (fsI (fun q q1 q2 => (Or.inl (fsH (by omega) (by omega))))) h_mo (fun rv H2 lo2 hM hF hpo => ?_)
    obtain ⟨rfl, hw_0⟩ := hpo
    have h_mo : PR E b (modelW E b (updC mo 0 (updZ (mo 0) 0 1))) H2 := hw_0
    show V p l e (rmL 2 0 0) s m args below meth cd Q 3 H2 lo2 0 0 25 [(0, .ref b), (1, .int (zI w)), (2, .int (zI y))] [.int (zI 0)]
    refine v_if_eq X (by omega) dX10_areConnected_25 28 45 rfl (by decide) (fun c_3 => ?_) (fun c_3 => ?_)
    · skip
      refine v_iconst X dX10_areConnected_45 46 rfl ?_
      subst hQ; exact m_zret X hr hlk hM dX10_areConnected_46 rfl (by omega) ⟨rfl, h_mo⟩
    · skip
      exfalso; omega
  · skip
    exfalso; first | omega | contradiction
set_option maxHeartbeats 4000000 in
set_option maxRecDepth 20000 in
theorem c_X10_areConnected_1 (l : Launch) (E : Nat → Nat → Nat) (b : Nat) (mo : Nat → Int → Int) (co : Nat → Int → Int) (w : Int) (y : Int) (hO : OkC co) (hR : RelC co (mo 1)) (hI : TsI co) (hG : GpI co) (gw : Rg w) (gy : Rg y) (p0 : 0 ≤ w ∧ w < co 0 1) (nk : ¬ (0 ≤ y ∧ y < co 0 1)) : Mu l yX10_areConnected cX10_areConnected 3 (some .boolean) 2 0 0 E [(b, 5)] [.ref b, .int (zI w), .int (zI y)] (fun H => PR E b (modelW E b mo) H) (fun rv H => rv = some (.int (zI 0)) ∧ PR E b (modelW E b (updC mo 0 (updZ (mo 0) 0 1))) H) := by
  refine Mu.start (own := RX10) rfl (by decide +kernel) (Nat.le_of_ble_eq_true rfl) ?_
  intro p e s m below meth cd args Q hQ X hr hlk hnm hM hPr
  have h_mo := hPr
  have hb0 := hO.b0
  have hbw := hO.bw
  have hr0 := hR.s0
  have hr1 := hR.s1
  refine v_aload_n X dX10_areConnected_0 1 rfl 0 rfl ?_
  refine v_aload_n X dX10_areConnected_1 2 rfl 0 rfl ?_
  refine v_iload_n X dX10_areConnected_2 3 rfl 1 rfl ?_
  refine v_rdV X hM.C h_mo.1 (c_X10_isWitness l E b mo co w hO hR gw) kvX10_isWitness kiX10_isWitness kl_X10_95 rfl rfl (As := [.int (zI w)]) rfl rfl rfl dX10_areConnected_3 6 rfl ?_
  show V p l e (rmL 2 0 0) s m args below meth cd Q 3 s.heap [] 0 0 6 [(0, .ref b), (1, .int (zI w)), (2, .int (zI y))] [.int (zI (bz (0 ≤ w ∧ w < co 0 1))), .ref b]
  refine v_bif_eq X dX10_areConnected_6 9 21 rfl (by decide) (fun c_1 => ?_) (fun c_1 => ?_)
  · skip
    exfalso; first | omega | contradiction
  · skip
    refine v_aload_n X dX10_areConnected_9 10 rfl 0 rfl ?_
    refine v_iload_n X dX10_areConnected_10 11 rfl 2 rfl ?_
    refine v_rdV X hM.C h_mo.1 (c_X10_isWitness l E b mo co y hO hR gy) kvX10_isWitness kiX10_isWitness kl_X10_95 rfl rfl (As := [.int (zI y)]) rfl rfl rfl dX10_areConnected_11 14 rfl ?_
    show V p l e (rmL 2 0 0) s m args below meth cd Q 3 s.heap [] 0 0 14 [(0, .ref b), (1, .int (zI w)), (2, .int (zI y))] [.int (zI (bz (0 ≤ y ∧ y < co 0 1))), .ref b]
    refine v_bif_eq X dX10_areConnected_14 17 21 rfl (by decide) (fun c_2 => ?_) (fun c_2 => ?_)
    · skip
      refine v_iconst X dX10_areConnected_21 22 rfl ?_
      refine v_muV X hM (h_mo.1) (c_X10_isFine_0 l E b mo) kvX10_isFine kiX10_isFine kl_X10_124 (q0 := 0) rfl rfl (As := [.int (zI 0)]) rfl rfl rfl dX10_areConnected_22 25 rfl (k' := 0) (n' := 0) rfl rfl (fsI (fun q q1 q2 => (Or.inl (fsH (by omega) (by omega))))) h_mo (fun rv H3 lo3 hM hF hpo => ?_)
      obtain ⟨rfl, hw_0⟩ := hpo
      have h_mo : PR E b (modelW E b (updC mo 0 (updZ (mo 0) 0 1))) H3 := hw_0
      show V p l e (rmL 2 0 0) s m args below meth cd Q 3 H3 lo3 0 0 25 [(0, .ref b), (1, .int (zI w)), (2, .int (zI y))] [.int (zI 0)]
      refine v_if_eq X (by omega) dX10_areConnected_25 28 45 rfl (by decide) (fun c_4 => ?_) (fun c_4 => ?_)
      · skip
        refine v_iconst X dX10_areConnected_45 46 rfl ?_
        subst hQ; exact m_zret X hr hlk hM dX10_areConnected_46 rfl (by omega) ⟨rfl, h_mo⟩
      · skip
        exfalso; omega
    · skip
      exfalso; first | omega | contradiction
set_option maxHeartbeats 4000000 in
set_option maxRecDepth 20000 in
theorem c_X10_areConnectedBySearch (l : Launch) (E : Nat → Nat → Nat) (b : Nat) (mo : Nat → Int → Int) (co : Nat → Int → Int) (w : Int) (y : Int) (hO : OkC co) (hR : RelC co (mo 1)) (hI : TsI co) (hG : GpI co) (gw : Rg w) (gy : Rg y) (p0 : 0 ≤ w ∧ w < co 0 1) (p1 : 0 ≤ y ∧ y < co 0 1) : Mu l yX10_areConnectedBySearch cX10_areConnectedBySearch 3 (some .boolean) 3 0 0 E [(b, 5)] [.ref b, .int (zI w), .int (zI y)] (fun H => PR E b (modelW E b mo) H) (fun rv H => rv = some (.int (zI (bz (rtF (co 13) 8 w = rtF (co 13) 8 y)))) ∧ PR E b (modelW E b (updC mo 0 (updZ (mo 0) 0 0))) H) := by
  refine Mu.start (own := RX10) rfl (by decide +kernel) (Nat.le_of_ble_eq_true rfl) ?_
  intro p e s m below meth cd args Q hQ X hr hlk hnm hM hPr
  have h_mo := hPr
  have hb0 := hO.b0
  have hbw := hO.bw
  have hr0 := hR.s0
  have hr1 := hR.s1
  refine v_aload_n X dX10_areConnectedBySearch_0 1 rfl 0 rfl ?_
  refine v_iload_n X dX10_areConnectedBySearch_1 2 rfl 1 rfl ?_
  refine v_iload_n X dX10_areConnectedBySearch_2 3 rfl 2 rfl ?_
  refine v_muV X hM (h_mo.1) (c_X10_areConnected l E b mo co w y hO hR hI hG gw gy p0 p1) kvX10_areConnected kiX10_areConnected kl_X10_140 (q0 := 0) rfl rfl (As := [.int (zI w), .int (zI y)]) rfl rfl rfl dX10_areConnectedBySearch_3 6 rfl (k' := 0) (n' := 0) rfl rfl (fsI (fun q q1 q2 => (Or.inl (fsH (by omega) (by omega))))) h_mo (fun rv H1 lo1 hM hF hpo => ?_)
  obtain ⟨rfl, hw_0⟩ := hpo
  have h_mo : PR E b (modelW E b (updC mo 0 (updZ (mo 0) 0 0))) H1 := hw_0
  show V p l e (rmL 3 0 0) s m args below meth cd Q 3 H1 lo1 0 0 6 [(0, .ref b), (1, .int (zI w)), (2, .int (zI y))] [.int (zI (bz (rtF (co 13) 8 w = rtF (co 13) 8 y)))]
  subst hQ; exact m_zret X hr hlk hM dX10_areConnectedBySearch_6 rfl bz_01 ⟨rfl, h_mo⟩
set_option maxHeartbeats 4000000 in
set_option maxRecDepth 20000 in
theorem c_X10_areConnectedBySearch_0 (l : Launch) (E : Nat → Nat → Nat) (b : Nat) (mo : Nat → Int → Int) (co : Nat → Int → Int) (w : Int) (y : Int) (hO : OkC co) (hR : RelC co (mo 1)) (hI : TsI co) (hG : GpI co) (gw : Rg w) (gy : Rg y) (nk : ¬ (0 ≤ w ∧ w < co 0 1)) : Mu l yX10_areConnectedBySearch cX10_areConnectedBySearch 3 (some .boolean) 3 0 0 E [(b, 5)] [.ref b, .int (zI w), .int (zI y)] (fun H => PR E b (modelW E b mo) H) (fun rv H => rv = some (.int (zI 0)) ∧ PR E b (modelW E b (updC mo 0 (updZ (mo 0) 0 1))) H) := by
  refine Mu.start (own := RX10) rfl (by decide +kernel) (Nat.le_of_ble_eq_true rfl) ?_
  intro p e s m below meth cd args Q hQ X hr hlk hnm hM hPr
  have h_mo := hPr
  have hb0 := hO.b0
  have hbw := hO.bw
  have hr0 := hR.s0
  have hr1 := hR.s1
  refine v_aload_n X dX10_areConnectedBySearch_0 1 rfl 0 rfl ?_
  refine v_iload_n X dX10_areConnectedBySearch_1 2 rfl 1 rfl ?_
  refine v_iload_n X dX10_areConnectedBySearch_2 3 rfl 2 rfl ?_
  refine v_muV X hM (h_mo.1) (c_X10_areConnected_0 l E b mo co w y hO hR hI hG gw gy nk) kvX10_areConnected kiX10_areConnected kl_X10_140 (q0 := 0) rfl rfl (As := [.int (zI w), .int (zI y)]) rfl rfl rfl dX10_areConnectedBySearch_3 6 rfl (k' := 0) (n' := 0) rfl rfl (fsI (fun q q1 q2 => (Or.inl (fsH (by omega) (by omega))))) h_mo (fun rv H1 lo1 hM hF hpo => ?_)
  obtain ⟨rfl, hw_0⟩ := hpo
  have h_mo : PR E b (modelW E b (updC mo 0 (updZ (mo 0) 0 1))) H1 := hw_0
  show V p l e (rmL 3 0 0) s m args below meth cd Q 3 H1 lo1 0 0 6 [(0, .ref b), (1, .int (zI w)), (2, .int (zI y))] [.int (zI 0)]
  subst hQ; exact m_zret X hr hlk hM dX10_areConnectedBySearch_6 rfl (by omega) ⟨rfl, h_mo⟩
set_option maxHeartbeats 4000000 in
set_option maxRecDepth 20000 in
theorem c_X10_areConnectedBySearch_1 (l : Launch) (E : Nat → Nat → Nat) (b : Nat) (mo : Nat → Int → Int) (co : Nat → Int → Int) (w : Int) (y : Int) (hO : OkC co) (hR : RelC co (mo 1)) (hI : TsI co) (hG : GpI co) (gw : Rg w) (gy : Rg y) (p0 : 0 ≤ w ∧ w < co 0 1) (nk : ¬ (0 ≤ y ∧ y < co 0 1)) : Mu l yX10_areConnectedBySearch cX10_areConnectedBySearch 3 (some .boolean) 3 0 0 E [(b, 5)] [.ref b, .int (zI w), .int (zI y)] (fun H => PR E b (modelW E b mo) H) (fun rv H => rv = some (.int (zI 0)) ∧ PR E b (modelW E b (updC mo 0 (updZ (mo 0) 0 1))) H) := by
  refine Mu.start (own := RX10) rfl (by decide +kernel) (Nat.le_of_ble_eq_true rfl) ?_
  intro p e s m below meth cd args Q hQ X hr hlk hnm hM hPr
  have h_mo := hPr
  have hb0 := hO.b0
  have hbw := hO.bw
  have hr0 := hR.s0
  have hr1 := hR.s1
  refine v_aload_n X dX10_areConnectedBySearch_0 1 rfl 0 rfl ?_
  refine v_iload_n X dX10_areConnectedBySearch_1 2 rfl 1 rfl ?_
  refine v_iload_n X dX10_areConnectedBySearch_2 3 rfl 2 rfl ?_
  refine v_muV X hM (h_mo.1) (c_X10_areConnected_1 l E b mo co w y hO hR hI hG gw gy p0 nk) kvX10_areConnected kiX10_areConnected kl_X10_140 (q0 := 0) rfl rfl (As := [.int (zI w), .int (zI y)]) rfl rfl rfl dX10_areConnectedBySearch_3 6 rfl (k' := 0) (n' := 0) rfl rfl (fsI (fun q q1 q2 => (Or.inl (fsH (by omega) (by omega))))) h_mo (fun rv H1 lo1 hM hF hpo => ?_)
  obtain ⟨rfl, hw_0⟩ := hpo
  have h_mo : PR E b (modelW E b (updC mo 0 (updZ (mo 0) 0 1))) H1 := hw_0
  show V p l e (rmL 3 0 0) s m args below meth cd Q 3 H1 lo1 0 0 6 [(0, .ref b), (1, .int (zI w)), (2, .int (zI y))] [.int (zI 0)]
  subst hQ; exact m_zret X hr hlk hM dX10_areConnectedBySearch_6 rfl (by omega) ⟨rfl, h_mo⟩
set_option maxHeartbeats 4000000 in
set_option maxRecDepth 20000 in
theorem c_X10_groupSize (l : Launch) (E : Nat → Nat → Nat) (b : Nat) (mo : Nat → Int → Int) (co : Nat → Int → Int) (w : Int) (hO : OkC co) (hR : RelC co (mo 1)) (hI : TsI co) (hG : GpI co) (gw : Rg w) (p0 : 0 ≤ w ∧ w < co 0 1) : Mu l yX10_groupSize cX10_groupSize 5 (some .int) 2 0 0 E [(b, 5)] [.ref b, .int (zI w)] (fun H => PR E b (modelW E b mo) H) (fun rv H => rv = some (.int (zI (sumZ (fun j => bz (rtF (co 13) 8 w = rtF (co 13) 8 j)) (co 0 1).toNat))) ∧ PR E b (modelW E b (updC mo 0 (updZ (mo 0) 0 0))) H) := by
  refine Mu.start (own := RX10) rfl (by decide +kernel) (Nat.le_of_ble_eq_true rfl) ?_
  intro p e s m below meth cd args Q hQ X hr hlk hnm hM hPr
  have h_mo := hPr
  have hb0 := hO.b0
  have hbw := hO.bw
  have hr0 := hR.s0
  have hr1 := hR.s1
  refine v_aload_n X dX10_groupSize_0 1 rfl 0 rfl ?_
  refine v_aload_n X dX10_groupSize_1 2 rfl 0 rfl ?_
  refine v_iload_n X dX10_groupSize_2 3 rfl 1 rfl ?_
  refine v_rdV X hM.C h_mo.1 (c_X10_isWitness l E b mo co w hO hR gw) kvX10_isWitness kiX10_isWitness kl_X10_95 rfl rfl (As := [.int (zI w)]) rfl rfl rfl dX10_groupSize_3 6 rfl ?_
  show V p l e (rmL 2 0 0) s m args below meth cd Q 5 s.heap [] 0 0 6 [(0, .ref b), (1, .int (zI w))] [.int (zI (bz (0 ≤ w ∧ w < co 0 1))), .ref b]
  refine V_S (st' := [.int (zI 1), .ref b]) (by rw [bz_t (φ := 0 ≤ w ∧ w < co 0 1) (by first | omega | assumption)]) ?_
  refine v_muV X hM (h_mo.1) (c_X10_isFine_1 l E b mo) kvX10_isFine kiX10_isFine kl_X10_124 (q0 := 0) rfl rfl (As := [.int (zI 1)]) rfl rfl rfl dX10_groupSize_6 9 rfl (k' := 0) (n' := 0) rfl rfl (fsI (fun q q1 q2 => (Or.inl (fsH (by omega) (by omega))))) h_mo (fun rv H1 lo1 hM hF hpo => ?_)
  obtain ⟨rfl, hw_0⟩ := hpo
  have h_mo : PR E b (modelW E b (updC mo 0 (updZ (mo 0) 0 0))) H1 := hw_0
  show V p l e (rmL 2 0 0) s m args below meth cd Q 5 H1 lo1 0 0 9 [(0, .ref b), (1, .int (zI w))] [.int (zI 1)]
  refine v_if_ne X (by omega) dX10_groupSize_9 12 14 rfl (by decide) (fun c_2 => ?_) (fun c_2 => ?_)
  · skip
    refine v_aload_n X dX10_groupSize_14 15 rfl 0 rfl ?_
    refine v_iload_n X dX10_groupSize_15 16 rfl 1 rfl ?_
    refine v_rdV X hM.C h_mo.1 (c_X10_groupOf l E b (updC mo 0 (updZ (mo 0) 0 0)) co w hO hR hI (by omega) (by omega)) kvX10_groupOf kiX10_groupOf kl_X10_137 rfl rfl (As := [.int (zI w)]) rfl rfl rfl dX10_groupSize_16 19 rfl ?_
    show V p l e (rmL 2 0 0) s m args below meth cd Q 5 H1 lo1 0 0 19 [(0, .ref b), (1, .int (zI w))] [.int (zI ((gpS co (Int.toNat w) 8 : Nat) : Int))]
    have hf_3 := gpS_lt hO (show Int.toNat w < 8 by omega) 8
    refine v_istore_n X dX10_groupSize_19 20 rfl rfl (by decide) (L' := [(2, .int (zI ((gpS co (Int.toNat w) 8 : Nat) : Int))), (0, .ref b), (1, .int (zI w))]) rfl ?_
    refine v_iconst X dX10_groupSize_20 21 rfl ?_
    refine v_istore_n X dX10_groupSize_21 22 rfl rfl (by decide) (L' := [(3, .int (zI 0)), (2, .int (zI ((gpS co (Int.toNat w) 8 : Nat) : Int))), (0, .ref b), (1, .int (zI w))]) rfl ?_
    refine v_iconst X dX10_groupSize_22 23 rfl ?_
    refine v_istore X dX10_groupSize_23 25 rfl (by decide) (L' := [(4, .int (zI 0)), (3, .int (zI 0)), (2, .int (zI ((gpS co (Int.toNat w) 8 : Nat) : Int))), (0, .ref b), (1, .int (zI w))]) rfl ?_
    refine v_locals [0, 1, 3, 4, 2] (L' := [(4, .int (zI 0)), (3, .int (zI 0)), (0, .ref b), (1, .int (zI w)), (2, .int (zI ((gpS co (Int.toNat w) 8 : Nat) : Int)))]) rfl ?_
    refine V_L (L' := [(4, .int (zI 0)), (3, .int (zI (sumZ (fun k => (((gpS co (Int.toNat w) 8 >>> Int.toNat k) &&& 1 : Nat) : Int)) 0))), (0, .ref b), (1, .int (zI w)), (2, .int (zI ((gpS co (Int.toNat w) 8 : Nat) : Int)))]) (LC rfl (LC (vz (by rfl)) (LC rfl (LC rfl (LC rfl rfl))))) ?_
    refine up_loop 8 (P := fun (i : Nat) => ∀ (H : Heap) (lo : List Loc), MS E [(b, 5)] s H lo → PR E b (modelW E b (updC mo 0 (updZ (mo 0) 0 0))) H → V p l e (rmL 2 0 0) s m args below meth cd Q 5 H lo 0 0 25 [(4, .int (zI (i : Int))), (3, .int (zI (sumZ (fun k => (((gpS co (Int.toNat w) 8 >>> Int.toNat k) &&& 1 : Nat) : Int)) i))), (0, .ref b), (1, .int (zI w)), (2, .int (zI ((gpS co (Int.toNat w) 8 : Nat) : Int)))] []) (fun i hi_i ih_i H4 lo4 hM h_mo => ?_) _ _ hM h_mo
    refine v_iload X dX10_groupSize_25 27 rfl 0 rfl ?_
    refine v_bipush X dX10_groupSize_27 29 rfl rfl ?_
    refine v_icmp_ge X (by omega) (by omega) dX10_groupSize_29 32 47 rfl (by decide) (fun c_5 => ?_) (fun c_5 => ?_)
    · skip
      refine v_iload_n X dX10_groupSize_47 48 rfl 1 rfl ?_
      subst hQ; exact m_iret X hr hlk hM dX10_groupSize_48 rfl ⟨(sv (by rw [show i = 8 by omega]; exact (gp_z hO hG (by omega) (by omega)).symm)), h_mo⟩
    · skip
      refine v_iload_n X dX10_groupSize_32 33 rfl 1 rfl ?_
      refine v_iload_n X dX10_groupSize_33 34 rfl 4 rfl ?_
      refine v_iload X dX10_groupSize_34 36 rfl 0 rfl ?_
      refine v_ishr8 (a := gpS co (Int.toNat w) 8) X (gpS_lt hO (by omega) _) (by omega) (by omega) dX10_groupSize_36 37 rfl ?_
      refine v_iconst X dX10_groupSize_37 38 rfl ?_
      refine v_iand8 (a := (gpS co (Int.toNat w) 8) >>> Int.toNat (i : Int)) (b := 1) X (Nat.lt_of_le_of_lt (Nat.shiftRight_le _ _) (gpS_lt hO (by omega) _)) (by decide) dX10_groupSize_38 39 rfl ?_
      refine v_iadd X dX10_groupSize_39 40 rfl ?_
      refine v_istore_n X dX10_groupSize_40 41 rfl rfl (by decide) (L' := [(3, .int (zI (sumZ (fun k => (((gpS co (Int.toNat w) 8 >>> Int.toNat k) &&& 1 : Nat) : Int)) i + ((((gpS co (Int.toNat w) 8) >>> Int.toNat (i : Int)) &&& 1 : Nat) : Int)))), (4, .int (zI (i : Int))), (0, .ref b), (1, .int (zI w)), (2, .int (zI ((gpS co (Int.toNat w) 8 : Nat) : Int)))]) rfl ?_
      refine v_iinc X dX10_groupSize_41 44 rfl 1 rfl (by decide) (L' := [(4, .int (zI ((i : Int) + 1))), (3, .int (zI (sumZ (fun k => (((gpS co (Int.toNat w) 8 >>> Int.toNat k) &&& 1 : Nat) : Int)) i + ((((gpS co (Int.toNat w) 8) >>> Int.toNat (i : Int)) &&& 1 : Nat) : Int)))), (0, .ref b), (1, .int (zI w)), (2, .int (zI ((gpS co (Int.toNat w) 8 : Nat) : Int)))]) rfl ?_
      refine v_goto X dX10_groupSize_44 25 (by decide) ?_
      exact V_L (L' := [(4, .int (zI ((i + 1 : Nat) : Int))), (3, .int (zI (sumZ (fun k => (((gpS co (Int.toNat w) 8 >>> Int.toNat k) &&& 1 : Nat) : Int)) (i + 1)))), (0, .ref b), (1, .int (zI w)), (2, .int (zI ((gpS co (Int.toNat w) 8 : Nat) : Int)))]) (LC (vz (by omega)) (LC (vz (by rw [sumZ_s])) (LC rfl (LC rfl (LC rfl rfl))))) (ih_i (by omega) _ _ hM h_mo)
  · skip
    exfalso; omega
set_option maxHeartbeats 4000000 in
set_option maxRecDepth 20000 in
theorem c_X10_groupSize_0 (l : Launch) (E : Nat → Nat → Nat) (b : Nat) (mo : Nat → Int → Int) (co : Nat → Int → Int) (w : Int) (hO : OkC co) (hR : RelC co (mo 1)) (hI : TsI co) (hG : GpI co) (gw : Rg w) (nk : ¬ (0 ≤ w ∧ w < co 0 1)) : Mu l yX10_groupSize cX10_groupSize 5 (some .int) 2 0 0 E [(b, 5)] [.ref b, .int (zI w)] (fun H => PR E b (modelW E b mo) H) (fun rv H => rv = some (.int (zI 0)) ∧ PR E b (modelW E b (updC mo 0 (updZ (mo 0) 0 1))) H) := by
  refine Mu.start (own := RX10) rfl (by decide +kernel) (Nat.le_of_ble_eq_true rfl) ?_
  intro p e s m below meth cd args Q hQ X hr hlk hnm hM hPr
  have h_mo := hPr
  have hb0 := hO.b0
  have hbw := hO.bw
  have hr0 := hR.s0
  have hr1 := hR.s1
  refine v_aload_n X dX10_groupSize_0 1 rfl 0 rfl ?_
  refine v_aload_n X dX10_groupSize_1 2 rfl 0 rfl ?_
  refine v_iload_n X dX10_groupSize_2 3 rfl 1 rfl ?_
  refine v_rdV X hM.C h_mo.1 (c_X10_isWitness l E b mo co w hO hR gw) kvX10_isWitness kiX10_isWitness kl_X10_95 rfl rfl (As := [.int (zI w)]) rfl rfl rfl dX10_groupSize_3 6 rfl ?_
  show V p l e (rmL 2 0 0) s m args below meth cd Q 5 s.heap [] 0 0 6 [(0, .ref b), (1, .int (zI w))] [.int (zI (bz (0 ≤ w ∧ w < co 0 1))), .ref b]
  refine V_S (st' := [.int (zI 0), .ref b]) (by rw [bz_f (φ := 0 ≤ w ∧ w < co 0 1) (by first | omega | assumption)]) ?_
  refine v_muV X hM (h_mo.1) (c_X10_isFine_0 l E b mo) kvX10_isFine kiX10_isFine kl_X10_124 (q0 := 0) rfl rfl (As := [.int (zI 0)]) rfl rfl rfl dX10_groupSize_6 9 rfl (k' := 0) (n' := 0) rfl rfl (fsI (fun q q1 q2 => (Or.inl (fsH (by omega) (by omega))))) h_mo (fun rv H1 lo1 hM hF hpo => ?_)
  obtain ⟨rfl, hw_0⟩ := hpo
  have h_mo : PR E b (modelW E b (updC mo 0 (updZ (mo 0) 0 1))) H1 := hw_0
  show V p l e (rmL 2 0 0) s m args below meth cd Q 5 H1 lo1 0 0 9 [(0, .ref b), (1, .int (zI w))] [.int (zI 0)]
  refine v_if_ne X (by omega) dX10_groupSize_9 12 14 rfl (by decide) (fun c_2 => ?_) (fun c_2 => ?_)
  · skip
    exfalso; omega
  · skip
    refine v_iconst X dX10_groupSize_12 13 rfl ?_
    subst hQ; exact m_iret X hr hlk hM dX10_groupSize_13 rfl ⟨rfl, h_mo⟩
set_option maxHeartbeats 4000000 in
set_option maxRecDepth 20000 in
theorem c_X10_groupCount (l : Launch) (E : Nat → Nat → Nat) (b : Nat) (mo : Nat → Int → Int) (co : Nat → Int → Int) (hO : OkC co) (hR : RelC co (mo 1)) (hI : TsI co) (hG : GpI co) : Mu l yX10_groupCount cX10_groupCount 3 (some .int) 2 0 0 E [(b, 5)] [.ref b] (fun H => PR E b (modelW E b mo) H) (fun rv H => rv = some (.int (zI (sumZ (fun j => bz (co 13 j = j)) (co 0 1).toNat))) ∧ PR E b (modelW E b (updC mo 0 (updZ (mo 0) 0 0))) H) := by
  refine Mu.start (own := RX10) rfl (by decide +kernel) (Nat.le_of_ble_eq_true rfl) ?_
  intro p e s m below meth cd args Q hQ X hr hlk hnm hM hPr
  have h_mo := hPr
  have hb0 := hO.b0
  have hbw := hO.bw
  have hr0 := hR.s0
  have hr1 := hR.s1
  refine v_aload_n X dX10_groupCount_0 1 rfl 0 rfl ?_
  refine v_iconst X dX10_groupCount_1 2 rfl ?_
  refine v_putf X hM h_mo ftX10 0 rfl rfl 0 (by decide) kf_X10_30 (fun _ h => h) rfl rfl rfl (Nat.le_of_ble_eq_true rfl) (Or.inl (fsH (by omega) (by omega))) dX10_groupCount_2 5 rfl (ws' := modelW E b (updC mo 0 (updZ (mo 0) 0 0))) rfl (fun H1 lo1 hzz hM hF h_mo => ?_)
  clear hzz
  refine v_iconst X dX10_groupCount_5 6 rfl ?_
  refine v_istore_n X dX10_groupCount_6 7 rfl rfl (by decide) (L' := [(1, .int (zI 0)), (0, .ref b)]) rfl ?_
  refine v_iconst X dX10_groupCount_7 8 rfl ?_
  refine v_istore_n X dX10_groupCount_8 9 rfl rfl (by decide) (L' := [(2, .int (zI 0)), (1, .int (zI 0)), (0, .ref b)]) rfl ?_
  refine V_L (L' := [(2, .int (zI 0)), (1, .int (zI (sumZ (fun k => bz (gpS co (Int.toNat k) 8 &&& (2 ^ Int.toNat k - 1) = 0)) 0))), (0, .ref b)]) (LC rfl (LC (vz (by rfl)) (LC rfl rfl))) ?_
  refine up_loop ((co 0 1).toNat) (P := fun (i : Nat) => ∀ (H : Heap) (lo : List Loc), MS E [(b, 5)] s H lo → PR E b (modelW E b (updC mo 0 (updZ (mo 0) 0 0))) H → V p l e (rmL 2 0 0) s m args below meth cd Q 3 H lo 0 0 9 [(2, .int (zI (i : Int))), (1, .int (zI (sumZ (fun k => bz (gpS co (Int.toNat k) 8 &&& (2 ^ Int.toNat k - 1) = 0)) i))), (0, .ref b)] []) (fun i hi_i ih_i H2 lo2 hM h_mo => ?_) _ _ hM h_mo
  refine v_iload_n X dX10_groupCount_9 10 rfl 0 rfl ?_
  refine v_aload_n X dX10_groupCount_10 11 rfl 2 rfl ?_
  refine v_getf X hM.C h_mo.1 inX10 0 rfl rfl 1 (by decide) kf_X10_9 (fun _ h => h) rfl dX10_groupCount_11 14 rfl ?_
  refine v_iconst X dX10_groupCount_14 15 rfl ?_
  refine v_iald X hM.C h_mo.1 1 rfl (by omega) (by omega) (by omega) dX10_groupCount_15 16 rfl ?_
  show V p l e (rmL 2 0 0) s m args below meth cd Q 3 H2 lo2 0 0 16 [(2, .int (zI (i : Int))), (1, .int (zI (sumZ (fun k => bz (gpS co (Int.toNat k) 8 &&& (2 ^ Int.toNat k - 1) = 0)) i))), (0, .ref b)] [.int (zI (mo 1 1)), .int (zI (i : Int))]
  have hb_4 := hR.s1
  refine v_icmp_ge X (by omega) (by omega) dX10_groupCount_16 19 47 rfl (by decide) (fun c_3 => ?_) (fun c_3 => ?_)
  · skip
    refine v_iload_n X dX10_groupCount_47 48 rfl 1 rfl ?_
    subst hQ; exact m_iret X hr hlk hM dX10_groupCount_48 rfl ⟨(sv (by rw [show i = (co 0 1).toNat by omega]; exact hG.2.2.symm)), h_mo⟩
  · skip
    refine v_iload_n X dX10_groupCount_19 20 rfl 1 rfl ?_
    refine v_aload_n X dX10_groupCount_20 21 rfl 2 rfl ?_
    refine v_iload_n X dX10_groupCount_21 22 rfl 0 rfl ?_
    refine v_rdV X hM.C h_mo.1 (c_X10_groupOf l E b (updC mo 0 (updZ (mo 0) 0 0)) co (i : Int) hO hR hI (by omega) (by omega)) kvX10_groupOf kiX10_groupOf kl_X10_137 rfl rfl (As := [.int (zI (i : Int))]) rfl rfl rfl dX10_groupCount_22 25 rfl ?_
    show V p l e (rmL 2 0 0) s m args below meth cd Q 3 H2 lo2 0 0 25 [(2, .int (zI (i : Int))), (1, .int (zI (sumZ (fun k => bz (gpS co (Int.toNat k) 8 &&& (2 ^ Int.toNat k - 1) = 0)) i))), (0, .ref b)] [.int (zI ((gpS co (Int.toNat (i : Int)) 8 : Nat) : Int)), .int (zI (sumZ (fun k => bz (gpS co (Int.toNat k) 8 &&& (2 ^ Int.toNat k - 1) = 0)) i))]
    have hf_5 := gpS_lt hO (show Int.toNat (i : Int) < 8 by omega) 8
    refine v_iconst X dX10_groupCount_25 26 rfl ?_
    refine v_iload_n X dX10_groupCount_26 27 rfl 0 rfl ?_
    refine v_ishl8 X (by omega) (by omega) dX10_groupCount_27 28 rfl ?_
    refine v_iconst X dX10_groupCount_28 29 rfl ?_
    refine v_isub X dX10_groupCount_29 30 rfl ?_
    have h2p := Nat.two_pow_pos (Int.toNat (i : Int))
    refine V_S (st' := [.int (zI ((2 ^ Int.toNat (i : Int) - 1 : Nat) : Int)), .int (zI ((gpS co (Int.toNat (i : Int)) 8 : Nat) : Int)), .int (zI (sumZ (fun k => bz (gpS co (Int.toNat k) 8 &&& (2 ^ Int.toNat k - 1) = 0)) i))]) (by rw [show ((2 ^ Int.toNat (i : Int) : Nat) : Int) - 1 = ((2 ^ Int.toNat (i : Int) - 1 : Nat) : Int) by omega]) ?_
    have hp8 := pow8 (w := Int.toNat (i : Int)) (by omega)
    refine v_iand8 (a := gpS co (Int.toNat (i : Int)) 8) (b := 2 ^ Int.toNat (i : Int) - 1) X (gpS_lt hO (by omega) _) (by omega) dX10_groupCount_30 31 rfl ?_
    have hand := and8 (a := gpS co (Int.toNat (i : Int)) 8) (b := 2 ^ Int.toNat (i : Int) - 1) (gpS_lt hO (by omega) _)
    refine v_if_ne X (by omega) dX10_groupCount_31 34 38 rfl (by decide) (fun c_6 => ?_) (fun c_6 => ?_)
    · skip
      refine v_iconst X dX10_groupCount_38 39 rfl ?_
      refine v_iadd X dX10_groupCount_39 40 rfl ?_
      refine v_istore_n X dX10_groupCount_40 41 rfl rfl (by decide) (L' := [(1, .int (zI (sumZ (fun k => bz (gpS co (Int.toNat k) 8 &&& (2 ^ Int.toNat k - 1) = 0)) i + 0))), (2, .int (zI (i : Int))), (0, .ref b)]) rfl ?_
      refine v_iinc X dX10_groupCount_41 44 rfl 1 rfl (by decide) (L' := [(2, .int (zI ((i : Int) + 1))), (1, .int (zI (sumZ (fun k => bz (gpS co (Int.toNat k) 8 &&& (2 ^ Int.toNat k - 1) = 0)) i + 0))), (0, .ref b)]) rfl ?_
      refine v_goto X dX10_groupCount_44 9 (by decide) ?_
      exact V_L (L' := [(2, .int (zI ((i + 1 : Nat) : Int))), (1, .int (zI (sumZ (fun k => bz (gpS co (Int.toNat k) 8 &&& (2 ^ Int.toNat k - 1) = 0)) (i + 1)))), (0, .ref b)]) (LC (vz (by omega)) (LC (vz (by first | rw [sumZ_s, bz_t (φ := gpS co (Int.toNat (i : Int)) 8 &&& (2 ^ Int.toNat (i : Int) - 1) = 0) (by omega)] | (rw [sumZ_s, bz_f (φ := gpS co (Int.toNat (i : Int)) 8 &&& (2 ^ Int.toNat (i : Int) - 1) = 0) (by omega)] <;> omega))) (LC rfl rfl))) (ih_i (by omega) _ _ hM h_mo)
    · skip
      refine v_iconst X dX10_groupCount_34 35 rfl ?_
      refine v_goto X dX10_groupCount_35 39 (by decide) ?_
      refine v_iadd X dX10_groupCount_39 40 rfl ?_
      refine v_istore_n X dX10_groupCount_40 41 rfl rfl (by decide) (L' := [(1, .int (zI (sumZ (fun k => bz (gpS co (Int.toNat k) 8 &&& (2 ^ Int.toNat k - 1) = 0)) i + 1))), (2, .int (zI (i : Int))), (0, .ref b)]) rfl ?_
      refine v_iinc X dX10_groupCount_41 44 rfl 1 rfl (by decide) (L' := [(2, .int (zI ((i : Int) + 1))), (1, .int (zI (sumZ (fun k => bz (gpS co (Int.toNat k) 8 &&& (2 ^ Int.toNat k - 1) = 0)) i + 1))), (0, .ref b)]) rfl ?_
      refine v_goto X dX10_groupCount_44 9 (by decide) ?_
      exact V_L (L' := [(2, .int (zI ((i + 1 : Nat) : Int))), (1, .int (zI (sumZ (fun k => bz (gpS co (Int.toNat k) 8 &&& (2 ^ Int.toNat k - 1) = 0)) (i + 1)))), (0, .ref b)]) (LC (vz (by omega)) (LC (vz (by first | rw [sumZ_s, bz_t (φ := gpS co (Int.toNat (i : Int)) 8 &&& (2 ^ Int.toNat (i : Int) - 1) = 0) (by omega)] | (rw [sumZ_s, bz_f (φ := gpS co (Int.toNat (i : Int)) 8 &&& (2 ^ Int.toNat (i : Int) - 1) = 0) (by omega)] <;> omega))) (LC rfl rfl))) (ih_i (by omega) _ _ hM h_mo)
