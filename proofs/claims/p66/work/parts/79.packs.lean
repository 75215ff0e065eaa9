theorem p_docketAt (l : Launch) (E : Nat → Nat → Nat) (x : Nat) (co : Nat → Int → Int) (q : Int) (v : Nat) (T : List Int) (hO : OkC co) (gq : Rg q) (k0 : 0 ≤ q ∧ q < (dkM co (co 0 0).toNat : Int)) : Mu l yX9_docketAt cX9_docketAt 2 (some .int) 4 0 0 E [(x + 311, 3)] [.ref x, .int (zI q)] (fun H => PR E x [(x, .inr (11, [.ref (x + 1), .ref (x + 29), .ref (x + 57), .ref (x + 85), .ref (x + 311), .ref (x + 314), .ref (x + 319), .ref (x + 332), .int (zI 0), .int (zI (-1)), .int (zI (-1)), .int (zI 0)]))] H ∧ PR E (x + 1) (courtW E (x + 1) co) H ∧ RW E x v T H) (fun rv H => rv = some (.int (zI (dpC co q))) ∧ RW E x v T H) := by
  refine Mu.mono2 (Mu.exi (Pr := fun t H => PR E x [(x, .inr (11, [.ref (x + 1), .ref (x + 29), .ref (x + 57), .ref (x + 85), .ref (x + 311), .ref (x + 314), .ref (x + 319), .ref (x + 332), .int (zI 0), .int (zI (-1)), .int (zI (-1)), .int (zI 0)]))] H ∧ PR E (x + 1) (courtW E (x + 1) co) H ∧ RWb E x v T t H) (fun t => Mu.mono2 (Mu.fr (Mu.mono2 (c_X9_docketAt l E x co 0 (-1) (-1) 0 q t.1 hO gq k0 (by omega) (by omega)) (fun H h => ⟨h.1, h.2.1, h.2.2.2.1⟩) (fun _ _ h => h))) (fun _ h => h) (fun rv H h => ?_))) (fun H h => ?_) (fun _ _ h => h)
  · obtain ⟨⟨h1, h2⟩, H0, h3, hF⟩ := h
    exact ⟨by rw [h1, dp_in hO (t.1 1) k0.1 k0.2], h3.2.2.dk hF h2⟩
  · obtain ⟨h1, h2, t, h3⟩ := h
    exact ⟨t, h1, h2, h3⟩
theorem p_L_docketAt_t (l : Launch) (hl : l.stackTraces = false) (E : Nat → Nat → Nat) (x : Nat) (co : Nat → Int → Int) (q : Int) (v : Nat) (T : List Int) (hO : OkC co) (gq : Rg q) (nk : ¬ (0 ≤ q ∧ q < (dkM co (co 0 0).toNat : Int))) : MuW l yL_docketAt cL_docketAt 3 (some .int) [(0, 5, 6, 37)] 9 1 6 E [(x + 311, 3)] [.ref x, .int (zI q)] (fun H => PR E x [(x, .inr (11, [.ref (x + 1), .ref (x + 29), .ref (x + 57), .ref (x + 85), .ref (x + 311), .ref (x + 314), .ref (x + 319), .ref (x + 332), .int (zI 0), .int (zI (-1)), .int (zI (-1)), .int (zI 0)]))] H ∧ PR E (x + 1) (courtW E (x + 1) co) H ∧ RW E x v T H) (fun rv H => rv = some (.int (zI (-30000))) ∧ RW E x v T H) := by
  refine MuW.mono2 (MuW.exi (Pr := fun t H => PR E x [(x, .inr (11, [.ref (x + 1), .ref (x + 29), .ref (x + 57), .ref (x + 85), .ref (x + 311), .ref (x + 314), .ref (x + 319), .ref (x + 332), .int (zI 0), .int (zI (-1)), .int (zI (-1)), .int (zI 0)]))] H ∧ PR E (x + 1) (courtW E (x + 1) co) H ∧ RWb E x v T t H) (fun t => MuW.mono2 (MuW.fr (MuW.mono2 (w_X9_docketAt_0_t l hl E x co 0 (-1) (-1) 0 q t.1 hO gq nk (by omega) (by omega)) (fun H h => ⟨h.1, h.2.1, h.2.2.2.1⟩) (fun _ _ h => h))) (fun _ h => h) (fun rv H h => ?_))) (fun H h => ?_) (fun _ _ h => h)
  · obtain ⟨⟨h1, h2⟩, H0, h3, hF⟩ := h
    exact ⟨h1, h3.2.2.dk hF h2⟩
  · obtain ⟨h1, h2, t, h3⟩ := h
    exact ⟨t, h1, h2, h3⟩
def nxV (co : Nat → Int → Int) : Int := if ndF co (co 0 0).toNat = -1 then -30000 else ndF co (co 0 0).toNat
theorem p_next (l : Launch) (hl : l.stackTraces = false) (E : Nat → Nat → Nat) (x : Nat) (co : Nat → Int → Int) (v : Nat) (T : List Int) (hO : OkC co) : MuW l yL_nextToDecide cL_nextToDecide 2 (some .int) [(0, 4, 5, 37)] 9 1 6 E [(x + 311, 3)] [.ref x] (fun H => PR E x [(x, .inr (11, [.ref (x + 1), .ref (x + 29), .ref (x + 57), .ref (x + 85), .ref (x + 311), .ref (x + 314), .ref (x + 319), .ref (x + 332), .int (zI 0), .int (zI (-1)), .int (zI (-1)), .int (zI 0)]))] H ∧ PR E (x + 1) (courtW E (x + 1) co) H ∧ RW E x v T H) (fun rv H => rv = some (.int (zI (nxV co))) ∧ RW E x v T H) := by
  by_cases q : ndF co (co 0 0).toNat = -1
  · have e : nxV co = -30000 := if_pos q
    rw [e]
    refine MuW.mono2 (MuW.exi (Pr := fun t H => PR E x [(x, .inr (11, [.ref (x + 1), .ref (x + 29), .ref (x + 57), .ref (x + 85), .ref (x + 311), .ref (x + 314), .ref (x + 319), .ref (x + 332), .int (zI 0), .int (zI (-1)), .int (zI (-1)), .int (zI 0)]))] H ∧ PR E (x + 1) (courtW E (x + 1) co) H ∧ RWb E x v T t H) (fun t => MuW.mono2 (MuW.fr (MuW.mono2 (w_X9_nextToDecide_0_t l hl E x co 0 (-1) (-1) 0 t.1 hO (by rw [fh_nd hO, q]; omega) (by omega) (by omega)) (fun H h => ⟨h.1, h.2.1, h.2.2.2.1⟩) (fun _ _ h => h))) (fun _ h => h) (fun rv H h => ?_))) (fun H h => ?_) (fun _ _ h => h)
    · obtain ⟨⟨h1, h2⟩, H0, h3, hF⟩ := h
      exact ⟨h1, h3.2.2.dk hF h2⟩
    · obtain ⟨h1, h2, t, h3⟩ := h
      exact ⟨t, h1, h2, h3⟩
  · have e : nxV co = ndF co (co 0 0).toNat := if_neg q
    have hp : 0 ≤ ndF co (co 0 0).toNat := by
      rcases nd_all co (co 0 0).toNat with h | h
      · exact absurd h.1 q
      · exact h.1
    rw [e]
    refine MuW.mono2 (MuW.exi (Pr := fun t H => PR E x [(x, .inr (11, [.ref (x + 1), .ref (x + 29), .ref (x + 57), .ref (x + 85), .ref (x + 311), .ref (x + 314), .ref (x + 319), .ref (x + 332), .int (zI 0), .int (zI (-1)), .int (zI (-1)), .int (zI 0)]))] H ∧ PR E (x + 1) (courtW E (x + 1) co) H ∧ RWb E x v T t H) (fun t => MuW.mono2 (MuW.fr (MuW.mono2 (w_X9_nextToDecide l hl E x co 0 (-1) (-1) 0 t.1 hO (by rw [fh_nd hO]; exact hp) (by omega) (by omega)) (fun H h => ⟨h.1, h.2.1, h.2.2.2.1⟩) (fun _ _ h => h))) (fun _ h => h) (fun rv H h => ?_))) (fun H h => ?_) (fun _ _ h => h)
    · obtain ⟨⟨h1, h2⟩, H0, h3, hF⟩ := h
      exact ⟨by rw [h1, fh_nd hO], h3.2.2.dk hF h2⟩
    · obtain ⟨h1, h2, t, h3⟩ := h
      exact ⟨t, h1, h2, h3⟩
theorem p_abs (l : Launch) (E : Nat → Nat → Nat) (x : Nat) (co : Nat → Int → Int) (w : Int) (y : Int) (v : Nat) (T : List Int) (hD : InvD co) (gw : Rg w) (gy : Rg y) (k0 : 0 ≤ w ∧ w < co 0 1) (k1 : 0 ≤ y ∧ y < co 0 1) : Mu l yX9_areConnectedBySearch cX9_areConnectedBySearch 3 (some .boolean) 5 0 0 E [(x + 314, 5)] [.ref x, .int (zI w), .int (zI y)] (fun H => PR E x [(x, .inr (11, [.ref (x + 1), .ref (x + 29), .ref (x + 57), .ref (x + 85), .ref (x + 311), .ref (x + 314), .ref (x + 319), .ref (x + 332), .int (zI 0), .int (zI (-1)), .int (zI (-1)), .int (zI 0)]))] H ∧ PR E (x + 1) (courtW E (x + 1) co) H ∧ RW E x v T H) (fun rv H => rv = some (.int (zI (bz (rtF (co 13) 8 w = rtF (co 13) 8 y)))) ∧ RW E x v T H) := by
  refine Mu.mono2 (Mu.exi (Pr := fun t H => PR E x [(x, .inr (11, [.ref (x + 1), .ref (x + 29), .ref (x + 57), .ref (x + 85), .ref (x + 311), .ref (x + 314), .ref (x + 319), .ref (x + 332), .int (zI 0), .int (zI (-1)), .int (zI (-1)), .int (zI 0)]))] H ∧ PR E (x + 1) (courtW E (x + 1) co) H ∧ RWb E x v T t H) (fun t => Mu.mono2 (Mu.fr (Mu.mono2 (c_X9_areConnectedBySearch l E x co 0 (-1) (-1) 0 w y t.2.1 hD.inv.ok gw gy k0 k1 (fun se h a b c => ca_inv hD w k0.1 k0.2 y k1.1 k1.2 se h a b c) (by omega) (by omega)) (fun H h => ⟨h.1, h.2.1, h.2.2.2.2.1⟩) (fun _ _ h => h))) (fun _ h => h) (fun rv H h => ?_))) (fun H h => ?_) (fun _ _ h => h)
  · obtain ⟨⟨h0, h1, h2⟩, H0, h3, hF⟩ := h
    exact ⟨h1, h3.2.2.se hF h2⟩
  · obtain ⟨h1, h2, t, h3⟩ := h
    exact ⟨t, h1, h2, h3⟩
theorem p_isc (l : Launch) (E : Nat → Nat → Nat) (x : Nat) (co : Nat → Int → Int) (v : Nat) (T : List Int) (hD : InvD co) : Mu l yX9_isConsistent cX9_isConsistent 1 (some .boolean) 6 0 0 E [(x + 311, 3), (x + 314, 5)] [.ref x] (fun H => PR E x [(x, .inr (11, [.ref (x + 1), .ref (x + 29), .ref (x + 57), .ref (x + 85), .ref (x + 311), .ref (x + 314), .ref (x + 319), .ref (x + 332), .int (zI 0), .int (zI (-1)), .int (zI (-1)), .int (zI 0)]))] H ∧ PR E (x + 1) (courtW E (x + 1) co) H ∧ RW E x v T H) (fun rv H => rv = some (.int (zI 1)) ∧ RW E x v T H) := by
  refine Mu.mono2 (Mu.exi (Pr := fun t H => PR E x [(x, .inr (11, [.ref (x + 1), .ref (x + 29), .ref (x + 57), .ref (x + 85), .ref (x + 311), .ref (x + 314), .ref (x + 319), .ref (x + 332), .int (zI 0), .int (zI (-1)), .int (zI (-1)), .int (zI 0)]))] H ∧ PR E (x + 1) (courtW E (x + 1) co) H ∧ RWb E x v T t H) (fun t => Mu.mono2 (Mu.fr (Mu.mono2 (c_X9_isConsistent l E x co 0 (-1) (-1) 0 t.2.1 t.1 hD.inv.ok (fun k _ _ => ma_inv hD.inv.ok k) hD.inv.sn (ca_inv hD) (da_inv co hD.inv.ok) (by omega) (by omega) (by omega) (by omega) (by omega)) (fun H h => ⟨h.1, h.2.1, h.2.2.2.1, h.2.2.2.2.1⟩) (fun _ _ h => h))) (fun _ h => h) (fun rv H h => ?_))) (fun H h => ?_) (fun _ _ h => h)
  · obtain ⟨⟨sq, h1, h2, h2'⟩, H0, h3, hF⟩ := h
    exact ⟨h1, h3.2.2.ds hF h2 h2'⟩
  · obtain ⟨h1, h2, t, h3⟩ := h
    exact ⟨t, h1, h2, h3⟩
theorem p_formatCase (l : Launch) (E : Nat → Nat → Nat) (x : Nat) (co : Nat → Int → Int) (k : Int) (z : Nat) (v : Nat) (T : List Int) (hO : OkC co) (gk : Rg k) (k0 : 0 ≤ k ∧ k < co 0 0) (hbz : x + 334 ≤ z) : Mu l yX9_formatCase cX9_formatCase 3 (some .int) 7 37 2590 E [(x + 332, 1), (v, 1)] [.ref x, .int (zI k)] (fun H => PR E x [(x, .inr (11, [.ref (x + 1), .ref (x + 29), .ref (x + 57), .ref (x + 85), .ref (x + 311), .ref (x + 314), .ref (x + 319), .ref (x + 332), .int (zI 0), .int (zI (-1)), .int (zI (-1)), .int (zI 0)]))] H ∧ PR E (x + 1) (courtW E (x + 1) co) H ∧ RW E x v T H ∧ z ≤ H.size) (fun rv H => ∃ v1 : Nat, rv = some (.int (zI ((lnT co k (co 6 k).toNat).length : Int))) ∧ (v1 = v ∨ z ≤ v1) ∧ RW E x v1 (lnT co k (co 6 k).toNat) H) := by
  refine Mu.mono2 (Mu.exi (Pr := fun t H => (SBs t.2.2.2.1 t.2.2.1 t.2.2.2.2.1 T ∧ t.2.2.2.2.1 ≤ 60 ∧ (v = x + 333 ∨ x + 334 ≤ v)) ∧ PR E x [(x, .inr (11, [.ref (x + 1), .ref (x + 29), .ref (x + 57), .ref (x + 85), .ref (x + 311), .ref (x + 314), .ref (x + 319), .ref (x + 332), .int (zI 0), .int (zI (-1)), .int (zI (-1)), .int (zI 0)]))] H ∧ PR E (x + 1) (courtW E (x + 1) co) H ∧ RWb E x v T t H ∧ z ≤ H.size) (fun t => Mu.pre (fun h0 => Mu.mono2 (Mu.fr (Mu.mono2 (c_X9_formatCase l E x co 0 (-1) (-1) 0 v t.2.2.1 t.2.2.2.1 t.2.2.2.2.2 t.2.2.2.2.1 k T z hO gk k0 h0.2.1 h0.1 hbz (by omega) (by omega) (by omega) (by omega) (by omega)) (fun H h => ⟨h.1, h.2.1, h.2.2.1.2.2.2.1, h.2.2.1.2.2.2.2, h.2.2.2⟩) (fun _ _ h => h))) (fun _ h => h) (fun rv H h => ?_)))) (fun H h => ?_) (fun _ _ h => h)
  · obtain ⟨⟨v1, N1, f1, n1, ml1, h1, h2, h3, h4, h5, h6⟩, H0, h7, hF⟩ := h
    refine ⟨v1, ?_, h2, h7.2.2.1.ln hF h3 (by omega) (by omega) h5 h6⟩
    rw [h1, h3.2.2.2.1]
  · obtain ⟨h1, h2, ⟨t, h3⟩, h4⟩ := h
    exact ⟨t, h3.1, h1, h2, h3, h4⟩
theorem p_formatWitness (l : Launch) (E : Nat → Nat → Nat) (x : Nat) (co : Nat → Int → Int) (w : Int) (z : Nat) (v : Nat) (T : List Int) (hO : OkC co) (gw : Rg w) (k0 : 0 ≤ w ∧ w < co 0 1) (hbz : x + 334 ≤ z) : Mu l yX9_formatWitness cX9_formatWitness 2 (some .int) 6 4 280 E [(x + 332, 1), (v, 1)] [.ref x, .int (zI w)] (fun H => PR E x [(x, .inr (11, [.ref (x + 1), .ref (x + 29), .ref (x + 57), .ref (x + 85), .ref (x + 311), .ref (x + 314), .ref (x + 319), .ref (x + 332), .int (zI 0), .int (zI (-1)), .int (zI (-1)), .int (zI 0)]))] H ∧ PR E (x + 1) (courtW E (x + 1) co) H ∧ RW E x v T H ∧ z ≤ H.size) (fun rv H => ∃ v1 : Nat, rv = some (.int (zI ((wtT co w).length : Int))) ∧ (v1 = v ∨ z ≤ v1) ∧ RW E x v1 (wtT co w) H) := by
  refine Mu.mono2 (Mu.exi (Pr := fun t H => (SBs t.2.2.2.1 t.2.2.1 t.2.2.2.2.1 T ∧ t.2.2.2.2.1 ≤ 60 ∧ (v = x + 333 ∨ x + 334 ≤ v)) ∧ PR E x [(x, .inr (11, [.ref (x + 1), .ref (x + 29), .ref (x + 57), .ref (x + 85), .ref (x + 311), .ref (x + 314), .ref (x + 319), .ref (x + 332), .int (zI 0), .int (zI (-1)), .int (zI (-1)), .int (zI 0)]))] H ∧ PR E (x + 1) (courtW E (x + 1) co) H ∧ RWb E x v T t H ∧ z ≤ H.size) (fun t => Mu.pre (fun h0 => Mu.mono2 (Mu.fr (Mu.mono2 (c_X9_formatWitness l E x co 0 (-1) (-1) 0 v t.2.2.1 t.2.2.2.1 t.2.2.2.2.2 t.2.2.2.2.1 w T z hO gw k0 h0.2.1 h0.1 hbz (by omega) (by omega) (by omega) (by omega) (by omega)) (fun H h => ⟨h.1, h.2.1, h.2.2.1.2.2.2.1, h.2.2.1.2.2.2.2, h.2.2.2⟩) (fun _ _ h => h))) (fun _ h => h) (fun rv H h => ?_)))) (fun H h => ?_) (fun _ _ h => h)
  · obtain ⟨⟨v1, N1, f1, n1, ml1, h1, h2, h3, h4, h5, h6⟩, H0, h7, hF⟩ := h
    refine ⟨v1, ?_, h2, h7.2.2.1.ln hF h3 (by omega) (by omega) h5 h6⟩
    rw [h1, h3.2.2.2.1]
  · obtain ⟨h1, h2, ⟨t, h3⟩, h4⟩ := h
    exact ⟨t, h3.1, h1, h2, h3, h4⟩
set_option maxHeartbeats 4000000 in
set_option maxRecDepth 20000 in
theorem c_L_isLine (l : Launch) (E : Nat → Nat → Nat) (x : Nat) (v : Nat) (N : Nat) (f : Int → Int) (ml : Int) (n : Int) (o : Nat) (M : Nat) (g : Int → Int) (n1 : n ≤ (N : Int)) (N1 : N < 1000) (hf : ∀ j : Int, 0 ≤ f j ∧ f j < 128) (nM : n = (M : Int)) (M1 : M < 1000) (hg : ∀ j : Int, 0 ≤ g j ∧ g j < 128) (hj : ∀ j : Int, 0 ≤ j → j < n → f j = g j) : Rd l yL_isLine cL_isLine 4 (some .boolean) 5 E [.ref x, .int (zI n), .ref o] ([(x, .inr (11, [.ref (x + 1), .ref (x + 29), .ref (x + 57), .ref (x + 85), .ref (x + 311), .ref (x + 314), .ref (x + 319), .ref (x + 332), .int (zI 0), .int (zI (-1)), .int (zI (-1)), .int (zI 0)]))] ++ [(x + 332, .inr (1, [.ref v, .int (zI 0), .int (zI ml), .int (zI n)]))] ++ [(v, .inl (E 102 2, N, .inl (zA f)))] ++ [(o, .inr (0, [.ref (o + 1), .int (zI 0), .int (zI 0), .int (zI 0)]))] ++ [(o + 1, .inl (E 102 2, M, .inl (zA g)))]) (some (.int (zI (bz (True))))) := by
  refine Rd.start (own := RL) rfl (by decide +kernel) (Nat.le_of_ble_eq_true rfl) ?_
  intro p e s m below meth cd args Q hQ X hr hlk hC hP
  have h_sg := PW.right hP
  have h_so := PW.right (PW.left hP)
  have h_sa := PW.right (PW.left (PW.left hP))
  have h_sb := PW.right (PW.left (PW.left (PW.left hP)))
  have h_cm := (PW.left (PW.left (PW.left (PW.left hP))))
  refine v_iload_n X dL_isLine_0 1 rfl 1 rfl ?_
  refine v_aload_n X dL_isLine_1 2 rfl 2 rfl ?_
  refine v_rdV X hC (PW.app h_so h_sg) (c_J0_lengthO l E o (o + 1) M g M1) kvJ0_length_8abf5 kiJ0_length_8abf5 kl_L_122 rfl rfl (As := []) rfl rfl rfl dL_isLine_2 5 rfl ?_
  show V p l e (rmL 5 0 0) s m args below meth cd Q 4 s.heap [] 0 0 5 [(0, .ref x), (1, .int (zI n)), (2, .ref o)] [.int (zI (M : Int)), .int (zI n)]
  refine v_icmp_eq X (by omega) (by omega) dL_isLine_5 8 10 rfl (by decide) (fun c_1 => ?_) (fun c_1 => ?_)
  · skip
    refine v_iconst X dL_isLine_10 11 rfl ?_
    refine v_istore_n X dL_isLine_11 12 rfl rfl (by decide) (L' := [(3, .int (zI 0)), (0, .ref x), (1, .int (zI n)), (2, .ref o)]) rfl ?_
    refine V_L (L' := [(3, .int (zI 0)), (0, .ref x), (1, .int (zI n)), (2, .ref o)]) (LC rfl (LC rfl (LC rfl (LC rfl rfl)))) ?_
    refine up_loop M (P := fun (i : Nat) => V p l e (rmL 5 0 0) s m args below meth cd Q 4 s.heap [] 0 0 12 [(3, .int (zI (i : Int))), (0, .ref x), (1, .int (zI n)), (2, .ref o)] []) (fun i hi_i ih_i => ?_)
    have hji := hj (i : Int) (by omega)
    have hfi := hf (i : Int)
    have hgi := hg (i : Int)
    refine v_iload_n X dL_isLine_12 13 rfl 0 rfl ?_
    refine v_iload_n X dL_isLine_13 14 rfl 2 rfl ?_
    refine v_icmp_ge X (by omega) (by omega) dL_isLine_14 17 38 rfl (by decide) (fun c_2 => ?_) (fun c_2 => ?_)
    · skip
      refine v_iconst X dL_isLine_38 39 rfl ?_
      subst hQ; exact v_zret0 X hr hlk dL_isLine_39 (bz_t (by trivial))
    · skip
      refine v_aload_n X dL_isLine_17 18 rfl 1 rfl ?_
      refine v_iload_n X dL_isLine_18 19 rfl 0 rfl ?_
      refine v_rdV X hC (PW.app (PW.app h_cm h_sb) h_sa) (c_X9_lineChar l E x 0 (-1) (-1) 0 v N f ml n (i : Int) (by omega) (by omega) n1 N1 hf) kvX9_lineChar kiX9_lineChar kl_L_127 rfl rfl (As := [.int (zI (i : Int))]) rfl rfl rfl dL_isLine_19 22 rfl ?_
      show V p l e (rmL 5 0 0) s m args below meth cd Q 4 s.heap [] 0 0 22 [(3, .int (zI (i : Int))), (0, .ref x), (1, .int (zI n)), (2, .ref o)] [.int (zI (f (i : Int)))]
      refine v_aload_n X dL_isLine_22 23 rfl 3 rfl ?_
      refine v_iload_n X dL_isLine_23 24 rfl 0 rfl ?_
      refine v_rdV X hC (PW.app h_so h_sg) (c_J0_charAtO l E o (o + 1) M g (i : Int) (by omega) (by omega) M1 hg) kvJ0_charAt_5068e kiJ0_charAt_5068e kl_L_131 rfl rfl (As := [.int (zI (i : Int))]) rfl rfl rfl dL_isLine_24 27 rfl ?_
      show V p l e (rmL 5 0 0) s m args below meth cd Q 4 s.heap [] 0 0 27 [(3, .int (zI (i : Int))), (0, .ref x), (1, .int (zI n)), (2, .ref o)] [.int (zI (g (i : Int))), .int (zI (f (i : Int)))]
      have hji2 := hji (by omega)
      refine v_icmp_eq X (by omega) (by omega) dL_isLine_27 30 32 rfl (by decide) (fun c_3 => ?_) (fun c_3 => ?_)
      · skip
        refine v_iinc X dL_isLine_32 35 rfl 0 rfl (by decide) (L' := [(3, .int (zI ((i : Int) + 1))), (0, .ref x), (1, .int (zI n)), (2, .ref o)]) rfl ?_
        refine v_goto X dL_isLine_35 12 (by decide) ?_
        exact V_L (L' := [(3, .int (zI ((i + 1 : Nat) : Int))), (0, .ref x), (1, .int (zI n)), (2, .ref o)]) (LC (vz (by omega)) (LC rfl (LC rfl (LC rfl rfl)))) (ih_i (by omega))
      · skip
        refine v_iconst X dL_isLine_30 31 rfl ?_
        subst hQ; exact v_zret0 X hr hlk dL_isLine_31 (bz_f (by trivial))
  · skip
    exfalso; omega
theorem p_isLine (l : Launch) (E : Nat → Nat → Nat) (x : Nat) (v : Nat) (T : List Int) (o : Nat) : Mu l yL_isLine cL_isLine 4 (some .boolean) 5 0 0 E [] [.ref x, .int (zI (T.length : Int)), .ref o] (fun H => PR E x [(x, .inr (11, [.ref (x + 1), .ref (x + 29), .ref (x + 57), .ref (x + 85), .ref (x + 311), .ref (x + 314), .ref (x + 319), .ref (x + 332), .int (zI 0), .int (zI (-1)), .int (zI (-1)), .int (zI 0)]))] H ∧ RW E x v T H ∧ StrW E o T H) (fun rv H => rv = some (.int (zI 1)) ∧ RW E x v T H ∧ StrW E o T H) := by
  refine Mu.mono2 (Mu.exi (Pr := fun t H => ∃ u, ((SBs t.2.2.2.1 t.2.2.1 t.2.2.2.2.1 T ∧ t.2.2.2.2.1 ≤ 60 ∧ (v = x + 333 ∨ x + 334 ≤ v)) ∧ (LT u.2 (u.1 : Int) T ∧ (∀ j : Int, 0 ≤ u.2 j ∧ u.2 j < 128) ∧ u.1 < 1000)) ∧ PR E x [(x, .inr (11, [.ref (x + 1), .ref (x + 29), .ref (x + 57), .ref (x + 85), .ref (x + 311), .ref (x + 314), .ref (x + 319), .ref (x + 332), .int (zI 0), .int (zI (-1)), .int (zI (-1)), .int (zI 0)]))] H ∧ RWb E x v T t H ∧ StrB E o T u H) (fun t => Mu.exi (fun u => ?_))) (fun H h => ?_) (fun _ _ h => h)
  · obtain ⟨dk, se, N, f, n, ml⟩ := t
    obtain ⟨M, g⟩ := u
    refine Mu.pre (fun h0 => ?_)
    have e : n = (T.length : Int) := h0.1.1.2.2.2.1
    subst e
    have hS : SBs f N (T.length : Int) T := h0.1.1
    have hL : LT g (M : Int) T := h0.2.1
    have hN := hS.1
    refine Mu.mono2 (Mu.fr (Mu.mono2 (Rd.mu (c_L_isLine l E x v N f ml (T.length : Int) o M g hS.2.1 (by omega) hS.2.2.1 (hS.2.2.2.at hL).1 h0.2.2.2 h0.2.2.1 (hS.2.2.2.at hL).2)) (fun H h => PW.app (PW.app (PW.app (PW.app h.1.1 h.2.1.2.2.2.1.1) h.2.1.2.2.2.2.1) (PW.part h.2.2.2.1 0 1 (wc := [(o, .inr (0, [.ref (o + 1), .int (zI 0), .int (zI 0), .int (zI 0)]))]) rfl)) (PW.part h.2.2.2.1 1 1 (wc := [(o + 1, .inl (E 102 2, M, .inl (zA g)))]) rfl)) (fun _ _ h => h))) (fun _ h => h) (fun rv H h => ?_)
    obtain ⟨⟨h1, -⟩, H0, h7, hF⟩ := h
    have z : ∀ q, ¬ Fs [] q := fun q z => z.elim
    exact ⟨by rw [h1, bz_t trivial], RW.kept ⟨_, h7.2.1⟩ hF (fun q _ => z q), StrW.kept ⟨_, h7.2.2⟩ hF (fun q _ _ => z q)⟩
  · obtain ⟨h1, ⟨t, h2⟩, u, h3⟩ := h
    exact ⟨t, u, ⟨h2.1, h3.1⟩, h1, h2, h3⟩
def vdC (co : Nat → Int → Int) (k : Int) : Int := if co 3 k = 0 then -10000 else bz (¬ co 4 k = 0)
def frC (co : Nat → Int → Int) (k w : Int) : Int := if 0 ≤ faC co k w then faC co k w else -30000
def hvC (co : Nat → Int → Int) (k : Int) : Int := if 0 < co 6 k then co 7 (k * 6 + amx (wtC co k) (co 6 k).toNat) else -30000
theorem p_verdict (l : Launch) (hl : l.stackTraces = false) (E : Nat → Nat → Nat) (x : Nat) (co : Nat → Int → Int) (k : Int) (hO : OkC co) (gk : Rg k) (k0 : 0 ≤ k ∧ k < co 0 0) : MuW l yL_verdict cL_verdict 3 (some .int) [(0, 13, 14, 21)] 9 1 6 E [] [.ref x, .int (zI k)] (fun H => PR E x [(x, .inr (11, [.ref (x + 1), .ref (x + 29), .ref (x + 57), .ref (x + 85), .ref (x + 311), .ref (x + 314), .ref (x + 319), .ref (x + 332), .int (zI 0), .int (zI (-1)), .int (zI (-1)), .int (zI 0)]))] H ∧ PR E (x + 1) (courtW E (x + 1) co) H) (fun rv H => rv = some (.int (zI (vdC co k)))) := by
  by_cases q : co 3 k = 0
  · rw [show vdC co k = -10000 from if_pos q]
    exact w_X9_isGuilty_1_t l hl E x co 0 (-1) (-1) 0 k hO gk k0 (fun z => z q)
  · rw [show vdC co k = bz (¬ co 4 k = 0) from if_neg q]
    exact w_X9_isGuilty l hl E x co 0 (-1) (-1) 0 k hO gk k0 q
theorem p_firm (l : Launch) (hl : l.stackTraces = false) (E : Nat → Nat → Nat) (x : Nat) (co : Nat → Int → Int) (k : Int) (w : Int) (hO : OkC co) (gk : Rg k) (gw : Rg w) (k0 : 0 ≤ k ∧ k < co 0 0) (k1 : 0 ≤ w ∧ w < co 0 1) (k2 : 0 < co 9 (k * 8 + w)) : MuW l yL_firmAnswersToGuilty cL_firmAnswersToGuilty 4 (some .int) [(0, 6, 7, 31), (0, 6, 12, 37)] 9 1 6 E [] [.ref x, .int (zI k), .int (zI w)] (fun H => PR E x [(x, .inr (11, [.ref (x + 1), .ref (x + 29), .ref (x + 57), .ref (x + 85), .ref (x + 311), .ref (x + 314), .ref (x + 319), .ref (x + 332), .int (zI 0), .int (zI (-1)), .int (zI (-1)), .int (zI 0)]))] H ∧ PR E (x + 1) (courtW E (x + 1) co) H) (fun rv H => rv = some (.int (zI (frC co k w)))) := by
  by_cases q : 0 ≤ faC co k w
  · rw [show frC co k w = faC co k w from if_pos q]
    exact w_X9_firmAnswersToGuilty l hl E x co 0 (-1) (-1) 0 k w hO gk gw k0 k1 k2 q
  · rw [show frC co k w = -30000 from if_neg q]
    exact w_X9_firmAnswersToGuilty_3_t l hl E x co 0 (-1) (-1) 0 k w hO gk gw k0 k1 k2 q
theorem p_heavy (l : Launch) (hl : l.stackTraces = false) (E : Nat → Nat → Nat) (x : Nat) (co : Nat → Int → Int) (k : Int) (hO : OkC co) (gk : Rg k) (k0 : 0 ≤ k ∧ k < co 0 0) : MuW l yL_heaviestWitness cL_heaviestWitness 3 (some .int) [(0, 5, 6, 31), (0, 5, 11, 37)] 9 1 6 E [] [.ref x, .int (zI k)] (fun H => PR E x [(x, .inr (11, [.ref (x + 1), .ref (x + 29), .ref (x + 57), .ref (x + 85), .ref (x + 311), .ref (x + 314), .ref (x + 319), .ref (x + 332), .int (zI 0), .int (zI (-1)), .int (zI (-1)), .int (zI 0)]))] H ∧ PR E (x + 1) (courtW E (x + 1) co) H) (fun rv H => rv = some (.int (zI (hvC co k)))) := by
  by_cases q : 0 < co 6 k
  · rw [show hvC co k = co 7 (k * 6 + amx (wtC co k) (co 6 k).toNat) from if_pos q]
    exact w_X9_heaviestWitness l hl E x co 0 (-1) (-1) 0 k hO gk k0 q
  · rw [show hvC co k = -30000 from if_neg q]
    exact w_X9_heaviestWitness_1_t l hl E x co 0 (-1) (-1) 0 k hO gk k0 q
theorem fl_0_1 {co : Nat → Int → Int} {a b z : Int} : ¬ flC co 0 a b z = 1 := by
  intro h
  unfold flC at h
  rw [if_pos rfl] at h
  unfold fCh at h
  repeat' (split at h)
  all_goals exact absurd h (by decide)
theorem fl_0_3 {co : Nat → Int → Int} {a b z : Int} : ¬ flC co 0 a b z = 3 := by
  intro h
  unfold flC at h
  rw [if_pos rfl] at h
  unfold fCh at h
  repeat' (split at h)
  all_goals exact absurd h (by decide)
theorem fl_1_1 {co : Nat → Int → Int} {a b z : Int} : ¬ flC co 1 a b z = 1 := by
  intro h
  unfold flC at h
  rw [if_neg (by decide)] at h
  rw [if_pos rfl] at h
  unfold fWi at h
  repeat' (split at h)
  all_goals exact absurd h (by decide)
theorem fl_1_3 {co : Nat → Int → Int} {a b z : Int} : ¬ flC co 1 a b z = 3 := by
  intro h
  unfold flC at h
  rw [if_neg (by decide)] at h
  rw [if_pos rfl] at h
  unfold fWi at h
  repeat' (split at h)
  all_goals exact absurd h (by decide)
theorem fl_2_3 {co : Nat → Int → Int} {a b z : Int} : ¬ flC co 2 a b z = 3 := by
  intro h
  unfold flC at h
  rw [if_neg (by decide)] at h
  rw [if_neg (by decide)] at h
  rw [if_pos rfl] at h
  unfold fTe at h
  repeat' (split at h)
  all_goals exact absurd h (by decide)
theorem fl_3_2 {co : Nat → Int → Int} {a b z : Int} : ¬ flC co 3 a b z = 2 := by
  intro h
  unfold flC at h
  rw [if_neg (by decide)] at h
  rw [if_neg (by decide)] at h
  rw [if_neg (by decide)] at h
  rw [if_pos rfl] at h
  unfold fQu at h
  repeat' (split at h)
  all_goals exact absurd h (by decide)
theorem fl_4_2 {co : Nat → Int → Int} {a b z : Int} : ¬ flC co 4 a b z = 2 := by
  intro h
  unfold flC at h
  rw [if_neg (by decide)] at h
  rw [if_neg (by decide)] at h
  rw [if_neg (by decide)] at h
  rw [if_neg (by decide)] at h
  rw [if_pos rfl] at h
  unfold fDe at h
  repeat' (split at h)
  all_goals exact absurd h (by decide)
theorem fl_4_3 {co : Nat → Int → Int} {a b z : Int} : ¬ flC co 4 a b z = 3 := by
  intro h
  unfold flC at h
  rw [if_neg (by decide)] at h
  rw [if_neg (by decide)] at h
  rw [if_neg (by decide)] at h
  rw [if_neg (by decide)] at h
  rw [if_pos rfl] at h
  unfold fDe at h
  repeat' (split at h)
  all_goals exact absurd h (by decide)
theorem fl_5_2 {co : Nat → Int → Int} {a b z : Int} : ¬ flC co 5 a b z = 2 := by
  intro h
  unfold flC at h
  rw [if_neg (by decide)] at h
  rw [if_neg (by decide)] at h
  rw [if_neg (by decide)] at h
  rw [if_neg (by decide)] at h
  rw [if_neg (by decide)] at h
  unfold fAf at h
  repeat' (split at h)
  all_goals exact absurd h (by decide)
theorem fl_5_3 {co : Nat → Int → Int} {a b z : Int} : ¬ flC co 5 a b z = 3 := by
  intro h
  unfold flC at h
  rw [if_neg (by decide)] at h
  rw [if_neg (by decide)] at h
  rw [if_neg (by decide)] at h
  rw [if_neg (by decide)] at h
  rw [if_neg (by decide)] at h
  unfold fAf at h
  repeat' (split at h)
  all_goals exact absurd h (by decide)
theorem fl_6_2 {co : Nat → Int → Int} {a b z : Int} : ¬ flC co 6 a b z = 2 := by
  intro h
  unfold flC at h
  rw [if_neg (by decide)] at h
  rw [if_neg (by decide)] at h
  rw [if_neg (by decide)] at h
  rw [if_neg (by decide)] at h
  rw [if_neg (by decide)] at h
  unfold fAf at h
  repeat' (split at h)
  all_goals exact absurd h (by decide)
theorem fl_6_3 {co : Nat → Int → Int} {a b z : Int} : ¬ flC co 6 a b z = 3 := by
  intro h
  unfold flC at h
  rw [if_neg (by decide)] at h
  rw [if_neg (by decide)] at h
  rw [if_neg (by decide)] at h
  rw [if_neg (by decide)] at h
  rw [if_neg (by decide)] at h
  unfold fAf at h
  repeat' (split at h)
  all_goals exact absurd h (by decide)
theorem p_L_charge (l : Launch) (hl : l.stackTraces = false) (E : Nat → Nat → Nat) (x : Nat) (co : Nat → Int → Int) (d : Int) (o : Int) (hO : OkC co) (gd : Rg d) (go : Rg o) : MuW l yL_charge cL_charge 4 (some .int) [(0, 6, 7, 19), (0, 6, 12, 21)] 11 1 6 E [(x + 1, 28), (x + 85, 2), (x + 87, 224)] [.ref x, .int (zI d), .int (zI o)] (fun H => PR E x [(x, .inr (11, [.ref (x + 1), .ref (x + 29), .ref (x + 57), .ref (x + 85), .ref (x + 311), .ref (x + 314), .ref (x + 319), .ref (x + 332), .int (zI 0), .int (zI (-1)), .int (zI (-1)), .int (zI 0)]))] H ∧ PR E (x + 1) (courtW E (x + 1) co) H ∧ HW E x H) (fun rv H => ∃ (r : Int) (co1 : Nat → Int → Int), rv = some (.int (zI r)) ∧ ((¬ flC co 0 d o 0 = 0 ∧ co1 = co) ∨ (flC co 0 d o 0 = 0 ∧ co1 = opC co 0 d o 0 0)) ∧ PR E (x + 1) (courtW E (x + 1) co1) H ∧ HW E x H) := by
  have hb := flC_b co 0 d o 0
  rcases (show flC co 0 d o 0 = 0 ∨ flC co 0 d o 0 = 1 ∨ flC co 0 d o 0 = 2 ∨ flC co 0 d o 0 = 3 ∨ flC co 0 d o 0 = 4 by omega) with q | q | q | q | q
  · refine MuW.mono2 (MuW.exi (Pr := fun t H => ((0 ≤ t.2.1 ∧ t.2.1 < 8) ∧ 0 ≤ t.2.2 ∧ t.2.2 ≤ 8) ∧ PR E x [(x, .inr (11, [.ref (x + 1), .ref (x + 29), .ref (x + 57), .ref (x + 85), .ref (x + 311), .ref (x + 314), .ref (x + 319), .ref (x + 332), .int (zI 0), .int (zI (-1)), .int (zI (-1)), .int (zI 0)]))] H ∧ PR E (x + 1) (courtW E (x + 1) co) H ∧ HWb E x t H) (fun t => MuW.pre (fun h0 => MuW.mono2 (w_X9_charge l hl E x co 0 (-1) (-1) 0 d o t.1 t.2.1 t.2.2 hO gd go q h0.1.1 h0.1.2 h0.2.1 h0.2.2 (by omega) (by omega) (by omega) (by omega) (by omega) (by omega)) (fun H h => ⟨h.1, h.2.1, h.2.2.2.1, h.2.2.2.2⟩) (fun rv H h => ?_)))) (fun H h => ?_) (fun _ _ h => h)
    · exact ⟨opV co 0 d o 0 0, _, h.1, Or.inr ⟨q, rfl⟩, h.2.1, (fun j => if j = t.2.1.toNat then co else t.1 j, if t.2.1 < 7 then t.2.1 + 1 else 0, min (t.2.2 + 1) 8), ⟨⟨by dsimp only; split <;> omega, by dsimp only; split <;> omega⟩, by dsimp only; omega, by dsimp only; omega⟩, h.2.2.1, h.2.2.2⟩
    · obtain ⟨h1, h2, t, h3⟩ := h
      exact ⟨t, h3.1, h1, h2, h3⟩
  · exact absurd q fl_0_1
  · refine MuW.rs' (rs := []) (MuW.mono2 (MuW.fr (MuW.mono2 (w_X9_charge_2_t l hl E x co 0 (-1) (-1) 0 d o hO gd go q) (fun H h => ⟨h.1, h.2.1⟩) (fun _ _ h => h))) (fun (H : Heap) (h : PR E x [(x, .inr (11, [.ref (x + 1), .ref (x + 29), .ref (x + 57), .ref (x + 85), .ref (x + 311), .ref (x + 314), .ref (x + 319), .ref (x + 332), .int (zI 0), .int (zI (-1)), .int (zI (-1)), .int (zI 0)]))] H ∧ PR E (x + 1) (courtW E (x + 1) co) H ∧ HW E x H) => h) (fun rv H h => ?_)) (fun q hq => hq.elim)
    obtain ⟨h1, H0, h2, hF⟩ := h
    exact ⟨_, co, h1, Or.inl ⟨by omega, rfl⟩, h2.2.1.kept hF 28 rfl (fun q _ _ z => z.elim), h2.2.2.kept hF (fun q _ _ z => z.elim)⟩
  · exact absurd q fl_0_3
  · refine MuW.rs' (rs := []) (MuW.mono2 (MuW.fr (MuW.mono2 (w_X9_charge_4_t l hl E x co 0 (-1) (-1) 0 d o hO gd go q) (fun H h => ⟨h.1, h.2.1⟩) (fun _ _ h => h))) (fun (H : Heap) (h : PR E x [(x, .inr (11, [.ref (x + 1), .ref (x + 29), .ref (x + 57), .ref (x + 85), .ref (x + 311), .ref (x + 314), .ref (x + 319), .ref (x + 332), .int (zI 0), .int (zI (-1)), .int (zI (-1)), .int (zI 0)]))] H ∧ PR E (x + 1) (courtW E (x + 1) co) H ∧ HW E x H) => h) (fun rv H h => ?_)) (fun q hq => hq.elim)
    obtain ⟨h1, H0, h2, hF⟩ := h
    exact ⟨_, co, h1, Or.inl ⟨by omega, rfl⟩, h2.2.1.kept hF 28 rfl (fun q _ _ z => z.elim), h2.2.2.kept hF (fun q _ _ z => z.elim)⟩
theorem p_L_addWitness (l : Launch) (hl : l.stackTraces = false) (E : Nat → Nat → Nat) (x : Nat) (co : Nat → Int → Int) (v : Int) (hO : OkC co) (gv : Rg v) : MuW l yL_addWitness cL_addWitness 3 (some .int) [(0, 5, 6, 19), (0, 5, 11, 21)] 11 1 6 E [(x + 1, 28), (x + 85, 2), (x + 87, 224)] [.ref x, .int (zI v)] (fun H => PR E x [(x, .inr (11, [.ref (x + 1), .ref (x + 29), .ref (x + 57), .ref (x + 85), .ref (x + 311), .ref (x + 314), .ref (x + 319), .ref (x + 332), .int (zI 0), .int (zI (-1)), .int (zI (-1)), .int (zI 0)]))] H ∧ PR E (x + 1) (courtW E (x + 1) co) H ∧ HW E x H) (fun rv H => ∃ (r : Int) (co1 : Nat → Int → Int), rv = some (.int (zI r)) ∧ ((¬ flC co 1 v 0 0 = 0 ∧ co1 = co) ∨ (flC co 1 v 0 0 = 0 ∧ co1 = opC co 1 v 0 0 0)) ∧ PR E (x + 1) (courtW E (x + 1) co1) H ∧ HW E x H) := by
  have hb := flC_b co 1 v 0 0
  rcases (show flC co 1 v 0 0 = 0 ∨ flC co 1 v 0 0 = 1 ∨ flC co 1 v 0 0 = 2 ∨ flC co 1 v 0 0 = 3 ∨ flC co 1 v 0 0 = 4 by omega) with q | q | q | q | q
  · refine MuW.mono2 (MuW.exi (Pr := fun t H => ((0 ≤ t.2.1 ∧ t.2.1 < 8) ∧ 0 ≤ t.2.2 ∧ t.2.2 ≤ 8) ∧ PR E x [(x, .inr (11, [.ref (x + 1), .ref (x + 29), .ref (x + 57), .ref (x + 85), .ref (x + 311), .ref (x + 314), .ref (x + 319), .ref (x + 332), .int (zI 0), .int (zI (-1)), .int (zI (-1)), .int (zI 0)]))] H ∧ PR E (x + 1) (courtW E (x + 1) co) H ∧ HWb E x t H) (fun t => MuW.pre (fun h0 => MuW.mono2 (w_X9_addWitness l hl E x co 0 (-1) (-1) 0 v t.1 t.2.1 t.2.2 hO gv q h0.1.1 h0.1.2 h0.2.1 h0.2.2 (by omega) (by omega) (by omega) (by omega) (by omega) (by omega)) (fun H h => ⟨h.1, h.2.1, h.2.2.2.1, h.2.2.2.2⟩) (fun rv H h => ?_)))) (fun H h => ?_) (fun _ _ h => h)
    · exact ⟨opV co 1 v 0 0 0, _, h.1, Or.inr ⟨q, rfl⟩, h.2.1, (fun j => if j = t.2.1.toNat then co else t.1 j, if t.2.1 < 7 then t.2.1 + 1 else 0, min (t.2.2 + 1) 8), ⟨⟨by dsimp only; split <;> omega, by dsimp only; split <;> omega⟩, by dsimp only; omega, by dsimp only; omega⟩, h.2.2.1, h.2.2.2⟩
    · obtain ⟨h1, h2, t, h3⟩ := h
      exact ⟨t, h3.1, h1, h2, h3⟩
  · exact absurd q fl_1_1
  · refine MuW.rs' (rs := []) (MuW.mono2 (MuW.fr (MuW.mono2 (w_X9_addWitness_2_t l hl E x co 0 (-1) (-1) 0 v hO gv q) (fun H h => ⟨h.1, h.2.1⟩) (fun _ _ h => h))) (fun (H : Heap) (h : PR E x [(x, .inr (11, [.ref (x + 1), .ref (x + 29), .ref (x + 57), .ref (x + 85), .ref (x + 311), .ref (x + 314), .ref (x + 319), .ref (x + 332), .int (zI 0), .int (zI (-1)), .int (zI (-1)), .int (zI 0)]))] H ∧ PR E (x + 1) (courtW E (x + 1) co) H ∧ HW E x H) => h) (fun rv H h => ?_)) (fun q hq => hq.elim)
    obtain ⟨h1, H0, h2, hF⟩ := h
    exact ⟨_, co, h1, Or.inl ⟨by omega, rfl⟩, h2.2.1.kept hF 28 rfl (fun q _ _ z => z.elim), h2.2.2.kept hF (fun q _ _ z => z.elim)⟩
  · exact absurd q fl_1_3
  · refine MuW.rs' (rs := []) (MuW.mono2 (MuW.fr (MuW.mono2 (w_X9_addWitness_4_t l hl E x co 0 (-1) (-1) 0 v hO gv q) (fun H h => ⟨h.1, h.2.1⟩) (fun _ _ h => h))) (fun (H : Heap) (h : PR E x [(x, .inr (11, [.ref (x + 1), .ref (x + 29), .ref (x + 57), .ref (x + 85), .ref (x + 311), .ref (x + 314), .ref (x + 319), .ref (x + 332), .int (zI 0), .int (zI (-1)), .int (zI (-1)), .int (zI 0)]))] H ∧ PR E (x + 1) (courtW E (x + 1) co) H ∧ HW E x H) => h) (fun rv H h => ?_)) (fun q hq => hq.elim)
    obtain ⟨h1, H0, h2, hF⟩ := h
    exact ⟨_, co, h1, Or.inl ⟨by omega, rfl⟩, h2.2.1.kept hF 28 rfl (fun q _ _ z => z.elim), h2.2.2.kept hF (fun q _ _ z => z.elim)⟩
theorem p_L_testify (l : Launch) (hl : l.stackTraces = false) (E : Nat → Nat → Nat) (x : Nat) (co : Nat → Int → Int) (k : Int) (w : Int) (f : Int) (z : Int) (hO : OkC co) (gk : Rg k) (gw : Rg w) (gz : Rg z) (gf : 0 ≤ f ∧ f ≤ 1) : MuW l yL_testify cL_testify 6 (some .int) [(0, 9, 10, 31), (0, 9, 16, 19), (0, 9, 22, 21)] 11 1 6 E [(x + 1, 28), (x + 85, 2), (x + 87, 224)] [.ref x, .int (zI k), .int (zI w), .int (zI f), .int (zI z)] (fun H => PR E x [(x, .inr (11, [.ref (x + 1), .ref (x + 29), .ref (x + 57), .ref (x + 85), .ref (x + 311), .ref (x + 314), .ref (x + 319), .ref (x + 332), .int (zI 0), .int (zI (-1)), .int (zI (-1)), .int (zI 0)]))] H ∧ PR E (x + 1) (courtW E (x + 1) co) H ∧ HW E x H) (fun rv H => ∃ (r : Int) (co1 : Nat → Int → Int), rv = some (.int (zI r)) ∧ ((¬ flC co 2 k w z = 0 ∧ co1 = co) ∨ (flC co 2 k w z = 0 ∧ co1 = opC co 2 k w f z)) ∧ PR E (x + 1) (courtW E (x + 1) co1) H ∧ HW E x H) := by
  have hb := flC_b co 2 k w z
  rcases (show flC co 2 k w z = 0 ∨ flC co 2 k w z = 1 ∨ flC co 2 k w z = 2 ∨ flC co 2 k w z = 3 ∨ flC co 2 k w z = 4 by omega) with q | q | q | q | q
  · refine MuW.mono2 (MuW.exi (Pr := fun t H => ((0 ≤ t.2.1 ∧ t.2.1 < 8) ∧ 0 ≤ t.2.2 ∧ t.2.2 ≤ 8) ∧ PR E x [(x, .inr (11, [.ref (x + 1), .ref (x + 29), .ref (x + 57), .ref (x + 85), .ref (x + 311), .ref (x + 314), .ref (x + 319), .ref (x + 332), .int (zI 0), .int (zI (-1)), .int (zI (-1)), .int (zI 0)]))] H ∧ PR E (x + 1) (courtW E (x + 1) co) H ∧ HWb E x t H) (fun t => MuW.pre (fun h0 => MuW.mono2 (w_X9_testify l hl E x co 0 (-1) (-1) 0 k w f z t.1 t.2.1 t.2.2 hO gk gw gz gf q h0.1.1 h0.1.2 h0.2.1 h0.2.2 (by omega) (by omega) (by omega) (by omega) (by omega) (by omega)) (fun H h => ⟨h.1, h.2.1, h.2.2.2.1, h.2.2.2.2⟩) (fun rv H h => ?_)))) (fun H h => ?_) (fun _ _ h => h)
    · exact ⟨opV co 2 k w f z, _, h.1, Or.inr ⟨q, rfl⟩, h.2.1, (fun j => if j = t.2.1.toNat then co else t.1 j, if t.2.1 < 7 then t.2.1 + 1 else 0, min (t.2.2 + 1) 8), ⟨⟨by dsimp only; split <;> omega, by dsimp only; split <;> omega⟩, by dsimp only; omega, by dsimp only; omega⟩, h.2.2.1, h.2.2.2⟩
    · obtain ⟨h1, h2, t, h3⟩ := h
      exact ⟨t, h3.1, h1, h2, h3⟩
  · refine MuW.rs' (rs := []) (MuW.mono2 (MuW.fr (MuW.mono2 (w_X9_testify_1_t l hl E x co 0 (-1) (-1) 0 k w f z hO gk gw gz gf q) (fun H h => ⟨h.1, h.2.1⟩) (fun _ _ h => h))) (fun (H : Heap) (h : PR E x [(x, .inr (11, [.ref (x + 1), .ref (x + 29), .ref (x + 57), .ref (x + 85), .ref (x + 311), .ref (x + 314), .ref (x + 319), .ref (x + 332), .int (zI 0), .int (zI (-1)), .int (zI (-1)), .int (zI 0)]))] H ∧ PR E (x + 1) (courtW E (x + 1) co) H ∧ HW E x H) => h) (fun rv H h => ?_)) (fun q hq => hq.elim)
    obtain ⟨h1, H0, h2, hF⟩ := h
    exact ⟨_, co, h1, Or.inl ⟨by omega, rfl⟩, h2.2.1.kept hF 28 rfl (fun q _ _ z => z.elim), h2.2.2.kept hF (fun q _ _ z => z.elim)⟩
  · refine MuW.rs' (rs := []) (MuW.mono2 (MuW.fr (MuW.mono2 (w_X9_testify_2_t l hl E x co 0 (-1) (-1) 0 k w f z hO gk gw gz gf q) (fun H h => ⟨h.1, h.2.1⟩) (fun _ _ h => h))) (fun (H : Heap) (h : PR E x [(x, .inr (11, [.ref (x + 1), .ref (x + 29), .ref (x + 57), .ref (x + 85), .ref (x + 311), .ref (x + 314), .ref (x + 319), .ref (x + 332), .int (zI 0), .int (zI (-1)), .int (zI (-1)), .int (zI 0)]))] H ∧ PR E (x + 1) (courtW E (x + 1) co) H ∧ HW E x H) => h) (fun rv H h => ?_)) (fun q hq => hq.elim)
    obtain ⟨h1, H0, h2, hF⟩ := h
    exact ⟨_, co, h1, Or.inl ⟨by omega, rfl⟩, h2.2.1.kept hF 28 rfl (fun q _ _ z => z.elim), h2.2.2.kept hF (fun q _ _ z => z.elim)⟩
  · exact absurd q fl_2_3
  · refine MuW.rs' (rs := []) (MuW.mono2 (MuW.fr (MuW.mono2 (w_X9_testify_4_t l hl E x co 0 (-1) (-1) 0 k w f z hO gk gw gz gf q) (fun H h => ⟨h.1, h.2.1⟩) (fun _ _ h => h))) (fun (H : Heap) (h : PR E x [(x, .inr (11, [.ref (x + 1), .ref (x + 29), .ref (x + 57), .ref (x + 85), .ref (x + 311), .ref (x + 314), .ref (x + 319), .ref (x + 332), .int (zI 0), .int (zI (-1)), .int (zI (-1)), .int (zI 0)]))] H ∧ PR E (x + 1) (courtW E (x + 1) co) H ∧ HW E x H) => h) (fun rv H h => ?_)) (fun q hq => hq.elim)
    obtain ⟨h1, H0, h2, hF⟩ := h
    exact ⟨_, co, h1, Or.inl ⟨by omega, rfl⟩, h2.2.1.kept hF 28 rfl (fun q _ _ z => z.elim), h2.2.2.kept hF (fun q _ _ z => z.elim)⟩
theorem p_L_question (l : Launch) (hl : l.stackTraces = false) (E : Nat → Nat → Nat) (x : Nat) (co : Nat → Int → Int) (k : Int) (w : Int) (f : Int) (hO : OkC co) (gk : Rg k) (gw : Rg w) (gf : 0 ≤ f ∧ f ≤ 1) : MuW l yL_question cL_question 5 (some .int) [(0, 7, 8, 31), (0, 7, 14, 37), (0, 7, 20, 21)] 11 1 6 E [(x + 1, 28), (x + 85, 2), (x + 87, 224)] [.ref x, .int (zI k), .int (zI w), .int (zI f)] (fun H => PR E x [(x, .inr (11, [.ref (x + 1), .ref (x + 29), .ref (x + 57), .ref (x + 85), .ref (x + 311), .ref (x + 314), .ref (x + 319), .ref (x + 332), .int (zI 0), .int (zI (-1)), .int (zI (-1)), .int (zI 0)]))] H ∧ PR E (x + 1) (courtW E (x + 1) co) H ∧ HW E x H) (fun rv H => ∃ (r : Int) (co1 : Nat → Int → Int), rv = some (.int (zI r)) ∧ ((¬ flC co 3 k w 0 = 0 ∧ co1 = co) ∨ (flC co 3 k w 0 = 0 ∧ co1 = opC co 3 k w f 0)) ∧ PR E (x + 1) (courtW E (x + 1) co1) H ∧ HW E x H) := by
  have hb := flC_b co 3 k w 0
  rcases (show flC co 3 k w 0 = 0 ∨ flC co 3 k w 0 = 1 ∨ flC co 3 k w 0 = 2 ∨ flC co 3 k w 0 = 3 ∨ flC co 3 k w 0 = 4 by omega) with q | q | q | q | q
  · refine MuW.mono2 (MuW.exi (Pr := fun t H => ((0 ≤ t.2.1 ∧ t.2.1 < 8) ∧ 0 ≤ t.2.2 ∧ t.2.2 ≤ 8) ∧ PR E x [(x, .inr (11, [.ref (x + 1), .ref (x + 29), .ref (x + 57), .ref (x + 85), .ref (x + 311), .ref (x + 314), .ref (x + 319), .ref (x + 332), .int (zI 0), .int (zI (-1)), .int (zI (-1)), .int (zI 0)]))] H ∧ PR E (x + 1) (courtW E (x + 1) co) H ∧ HWb E x t H) (fun t => MuW.pre (fun h0 => MuW.mono2 (w_X9_question l hl E x co 0 (-1) (-1) 0 k w f t.1 t.2.1 t.2.2 hO gk gw gf q h0.1.1 h0.1.2 h0.2.1 h0.2.2 (by omega) (by omega) (by omega) (by omega) (by omega) (by omega)) (fun H h => ⟨h.1, h.2.1, h.2.2.2.1, h.2.2.2.2⟩) (fun rv H h => ?_)))) (fun H h => ?_) (fun _ _ h => h)
    · exact ⟨opV co 3 k w f 0, _, h.1, Or.inr ⟨q, rfl⟩, h.2.1, (fun j => if j = t.2.1.toNat then co else t.1 j, if t.2.1 < 7 then t.2.1 + 1 else 0, min (t.2.2 + 1) 8), ⟨⟨by dsimp only; split <;> omega, by dsimp only; split <;> omega⟩, by dsimp only; omega, by dsimp only; omega⟩, h.2.2.1, h.2.2.2⟩
    · obtain ⟨h1, h2, t, h3⟩ := h
      exact ⟨t, h3.1, h1, h2, h3⟩
  · refine MuW.rs' (rs := []) (MuW.mono2 (MuW.fr (MuW.mono2 (w_X9_question_1_t l hl E x co 0 (-1) (-1) 0 k w f hO gk gw gf q) (fun H h => ⟨h.1, h.2.1⟩) (fun _ _ h => h))) (fun (H : Heap) (h : PR E x [(x, .inr (11, [.ref (x + 1), .ref (x + 29), .ref (x + 57), .ref (x + 85), .ref (x + 311), .ref (x + 314), .ref (x + 319), .ref (x + 332), .int (zI 0), .int (zI (-1)), .int (zI (-1)), .int (zI 0)]))] H ∧ PR E (x + 1) (courtW E (x + 1) co) H ∧ HW E x H) => h) (fun rv H h => ?_)) (fun q hq => hq.elim)
    obtain ⟨h1, H0, h2, hF⟩ := h
    exact ⟨_, co, h1, Or.inl ⟨by omega, rfl⟩, h2.2.1.kept hF 28 rfl (fun q _ _ z => z.elim), h2.2.2.kept hF (fun q _ _ z => z.elim)⟩
  · exact absurd q fl_3_2
  · refine MuW.rs' (rs := []) (MuW.mono2 (MuW.fr (MuW.mono2 (w_X9_question_3_t l hl E x co 0 (-1) (-1) 0 k w f hO gk gw gf q) (fun H h => ⟨h.1, h.2.1⟩) (fun _ _ h => h))) (fun (H : Heap) (h : PR E x [(x, .inr (11, [.ref (x + 1), .ref (x + 29), .ref (x + 57), .ref (x + 85), .ref (x + 311), .ref (x + 314), .ref (x + 319), .ref (x + 332), .int (zI 0), .int (zI (-1)), .int (zI (-1)), .int (zI 0)]))] H ∧ PR E (x + 1) (courtW E (x + 1) co) H ∧ HW E x H) => h) (fun rv H h => ?_)) (fun q hq => hq.elim)
    obtain ⟨h1, H0, h2, hF⟩ := h
    exact ⟨_, co, h1, Or.inl ⟨by omega, rfl⟩, h2.2.1.kept hF 28 rfl (fun q _ _ z => z.elim), h2.2.2.kept hF (fun q _ _ z => z.elim)⟩
  · refine MuW.rs' (rs := []) (MuW.mono2 (MuW.fr (MuW.mono2 (w_X9_question_4_t l hl E x co 0 (-1) (-1) 0 k w f hO gk gw gf q) (fun H h => ⟨h.1, h.2.1⟩) (fun _ _ h => h))) (fun (H : Heap) (h : PR E x [(x, .inr (11, [.ref (x + 1), .ref (x + 29), .ref (x + 57), .ref (x + 85), .ref (x + 311), .ref (x + 314), .ref (x + 319), .ref (x + 332), .int (zI 0), .int (zI (-1)), .int (zI (-1)), .int (zI 0)]))] H ∧ PR E (x + 1) (courtW E (x + 1) co) H ∧ HW E x H) => h) (fun rv H h => ?_)) (fun q hq => hq.elim)
    obtain ⟨h1, H0, h2, hF⟩ := h
    exact ⟨_, co, h1, Or.inl ⟨by omega, rfl⟩, h2.2.1.kept hF 28 rfl (fun q _ _ z => z.elim), h2.2.2.kept hF (fun q _ _ z => z.elim)⟩
theorem p_L_decide (l : Launch) (hl : l.stackTraces = false) (E : Nat → Nat → Nat) (x : Nat) (co : Nat → Int → Int) (k : Int) (hO : OkC co) (gk : Rg k) : MuW l yL_decide cL_decide 3 (some .int) [(0, 13, 14, 31), (0, 13, 19, 21)] 11 1 6 E [(x + 1, 28), (x + 85, 2), (x + 87, 224)] [.ref x, .int (zI k)] (fun H => PR E x [(x, .inr (11, [.ref (x + 1), .ref (x + 29), .ref (x + 57), .ref (x + 85), .ref (x + 311), .ref (x + 314), .ref (x + 319), .ref (x + 332), .int (zI 0), .int (zI (-1)), .int (zI (-1)), .int (zI 0)]))] H ∧ PR E (x + 1) (courtW E (x + 1) co) H ∧ HW E x H) (fun rv H => ∃ (r : Int) (co1 : Nat → Int → Int), rv = some (.int (zI r)) ∧ ((¬ flC co 4 k 0 0 = 0 ∧ co1 = co) ∨ (flC co 4 k 0 0 = 0 ∧ co1 = opC co 4 k 0 0 0)) ∧ PR E (x + 1) (courtW E (x + 1) co1) H ∧ HW E x H) := by
  have hb := flC_b co 4 k 0 0
  rcases (show flC co 4 k 0 0 = 0 ∨ flC co 4 k 0 0 = 1 ∨ flC co 4 k 0 0 = 2 ∨ flC co 4 k 0 0 = 3 ∨ flC co 4 k 0 0 = 4 by omega) with q | q | q | q | q
  · refine MuW.mono2 (MuW.exi (Pr := fun t H => ((0 ≤ t.2.1 ∧ t.2.1 < 8) ∧ 0 ≤ t.2.2 ∧ t.2.2 ≤ 8) ∧ PR E x [(x, .inr (11, [.ref (x + 1), .ref (x + 29), .ref (x + 57), .ref (x + 85), .ref (x + 311), .ref (x + 314), .ref (x + 319), .ref (x + 332), .int (zI 0), .int (zI (-1)), .int (zI (-1)), .int (zI 0)]))] H ∧ PR E (x + 1) (courtW E (x + 1) co) H ∧ HWb E x t H) (fun t => MuW.pre (fun h0 => MuW.mono2 (w_X9_decide l hl E x co 0 (-1) (-1) 0 k t.1 t.2.1 t.2.2 hO gk q h0.1.1 h0.1.2 h0.2.1 h0.2.2 (by omega) (by omega) (by omega) (by omega) (by omega) (by omega)) (fun H h => ⟨h.1, h.2.1, h.2.2.2.1, h.2.2.2.2⟩) (fun rv H h => ?_)))) (fun H h => ?_) (fun _ _ h => h)
    · exact ⟨bz (¬ opV co 4 k 0 0 0 = 0), _, h.1, Or.inr ⟨q, rfl⟩, h.2.1, (fun j => if j = t.2.1.toNat then co else t.1 j, if t.2.1 < 7 then t.2.1 + 1 else 0, min (t.2.2 + 1) 8), ⟨⟨by dsimp only; split <;> omega, by dsimp only; split <;> omega⟩, by dsimp only; omega, by dsimp only; omega⟩, h.2.2.1, h.2.2.2⟩
    · obtain ⟨h1, h2, t, h3⟩ := h
      exact ⟨t, h3.1, h1, h2, h3⟩
  · refine MuW.rs' (rs := []) (MuW.mono2 (MuW.fr (MuW.mono2 (w_X9_decide_1_t l hl E x co 0 (-1) (-1) 0 k hO gk q) (fun H h => ⟨h.1, h.2.1⟩) (fun _ _ h => h))) (fun (H : Heap) (h : PR E x [(x, .inr (11, [.ref (x + 1), .ref (x + 29), .ref (x + 57), .ref (x + 85), .ref (x + 311), .ref (x + 314), .ref (x + 319), .ref (x + 332), .int (zI 0), .int (zI (-1)), .int (zI (-1)), .int (zI 0)]))] H ∧ PR E (x + 1) (courtW E (x + 1) co) H ∧ HW E x H) => h) (fun rv H h => ?_)) (fun q hq => hq.elim)
    obtain ⟨h1, H0, h2, hF⟩ := h
    exact ⟨_, co, h1, Or.inl ⟨by omega, rfl⟩, h2.2.1.kept hF 28 rfl (fun q _ _ z => z.elim), h2.2.2.kept hF (fun q _ _ z => z.elim)⟩
  · exact absurd q fl_4_2
  · exact absurd q fl_4_3
  · refine MuW.rs' (rs := []) (MuW.mono2 (MuW.fr (MuW.mono2 (w_X9_decide_4_t l hl E x co 0 (-1) (-1) 0 k hO gk q) (fun H h => ⟨h.1, h.2.1⟩) (fun _ _ h => h))) (fun (H : Heap) (h : PR E x [(x, .inr (11, [.ref (x + 1), .ref (x + 29), .ref (x + 57), .ref (x + 85), .ref (x + 311), .ref (x + 314), .ref (x + 319), .ref (x + 332), .int (zI 0), .int (zI (-1)), .int (zI (-1)), .int (zI 0)]))] H ∧ PR E (x + 1) (courtW E (x + 1) co) H ∧ HW E x H) => h) (fun rv H h => ?_)) (fun q hq => hq.elim)
    obtain ⟨h1, H0, h2, hF⟩ := h
    exact ⟨_, co, h1, Or.inl ⟨by omega, rfl⟩, h2.2.1.kept hF 28 rfl (fun q _ _ z => z.elim), h2.2.2.kept hF (fun q _ _ z => z.elim)⟩
theorem p_L_appeal (l : Launch) (hl : l.stackTraces = false) (E : Nat → Nat → Nat) (x : Nat) (co : Nat → Int → Int) (k : Int) (hO : OkC co) (gk : Rg k) : MuW l yL_appeal cL_appeal 3 (some .int) [(0, 5, 6, 31), (0, 5, 11, 21)] 11 1 6 E [(x + 1, 28), (x + 85, 2), (x + 87, 224)] [.ref x, .int (zI k)] (fun H => PR E x [(x, .inr (11, [.ref (x + 1), .ref (x + 29), .ref (x + 57), .ref (x + 85), .ref (x + 311), .ref (x + 314), .ref (x + 319), .ref (x + 332), .int (zI 0), .int (zI (-1)), .int (zI (-1)), .int (zI 0)]))] H ∧ PR E (x + 1) (courtW E (x + 1) co) H ∧ HW E x H) (fun rv H => ∃ (r : Int) (co1 : Nat → Int → Int), rv = some (.int (zI r)) ∧ ((¬ flC co 5 k 0 0 = 0 ∧ co1 = co) ∨ (flC co 5 k 0 0 = 0 ∧ co1 = opC co 5 k 0 0 0)) ∧ PR E (x + 1) (courtW E (x + 1) co1) H ∧ HW E x H) := by
  have hb := flC_b co 5 k 0 0
  rcases (show flC co 5 k 0 0 = 0 ∨ flC co 5 k 0 0 = 1 ∨ flC co 5 k 0 0 = 2 ∨ flC co 5 k 0 0 = 3 ∨ flC co 5 k 0 0 = 4 by omega) with q | q | q | q | q
  · refine MuW.mono2 (MuW.exi (Pr := fun t H => ((0 ≤ t.2.1 ∧ t.2.1 < 8) ∧ 0 ≤ t.2.2 ∧ t.2.2 ≤ 8) ∧ PR E x [(x, .inr (11, [.ref (x + 1), .ref (x + 29), .ref (x + 57), .ref (x + 85), .ref (x + 311), .ref (x + 314), .ref (x + 319), .ref (x + 332), .int (zI 0), .int (zI (-1)), .int (zI (-1)), .int (zI 0)]))] H ∧ PR E (x + 1) (courtW E (x + 1) co) H ∧ HWb E x t H) (fun t => MuW.pre (fun h0 => MuW.mono2 (w_X9_appeal l hl E x co 0 (-1) (-1) 0 k t.1 t.2.1 t.2.2 hO gk q h0.1.1 h0.1.2 h0.2.1 h0.2.2 (by omega) (by omega) (by omega) (by omega) (by omega) (by omega)) (fun H h => ⟨h.1, h.2.1, h.2.2.2.1, h.2.2.2.2⟩) (fun rv H h => ?_)))) (fun H h => ?_) (fun _ _ h => h)
    · exact ⟨opV co 5 k 0 0 0, _, h.1, Or.inr ⟨q, rfl⟩, h.2.1, (fun j => if j = t.2.1.toNat then co else t.1 j, if t.2.1 < 7 then t.2.1 + 1 else 0, min (t.2.2 + 1) 8), ⟨⟨by dsimp only; split <;> omega, by dsimp only; split <;> omega⟩, by dsimp only; omega, by dsimp only; omega⟩, h.2.2.1, h.2.2.2⟩
    · obtain ⟨h1, h2, t, h3⟩ := h
      exact ⟨t, h3.1, h1, h2, h3⟩
  · refine MuW.rs' (rs := []) (MuW.mono2 (MuW.fr (MuW.mono2 (w_X9_appeal_1_t l hl E x co 0 (-1) (-1) 0 k hO gk q) (fun H h => ⟨h.1, h.2.1⟩) (fun _ _ h => h))) (fun (H : Heap) (h : PR E x [(x, .inr (11, [.ref (x + 1), .ref (x + 29), .ref (x + 57), .ref (x + 85), .ref (x + 311), .ref (x + 314), .ref (x + 319), .ref (x + 332), .int (zI 0), .int (zI (-1)), .int (zI (-1)), .int (zI 0)]))] H ∧ PR E (x + 1) (courtW E (x + 1) co) H ∧ HW E x H) => h) (fun rv H h => ?_)) (fun q hq => hq.elim)
    obtain ⟨h1, H0, h2, hF⟩ := h
    exact ⟨_, co, h1, Or.inl ⟨by omega, rfl⟩, h2.2.1.kept hF 28 rfl (fun q _ _ z => z.elim), h2.2.2.kept hF (fun q _ _ z => z.elim)⟩
  · exact absurd q fl_5_2
  · exact absurd q fl_5_3
  · refine MuW.rs' (rs := []) (MuW.mono2 (MuW.fr (MuW.mono2 (w_X9_appeal_4_t l hl E x co 0 (-1) (-1) 0 k hO gk q) (fun H h => ⟨h.1, h.2.1⟩) (fun _ _ h => h))) (fun (H : Heap) (h : PR E x [(x, .inr (11, [.ref (x + 1), .ref (x + 29), .ref (x + 57), .ref (x + 85), .ref (x + 311), .ref (x + 314), .ref (x + 319), .ref (x + 332), .int (zI 0), .int (zI (-1)), .int (zI (-1)), .int (zI 0)]))] H ∧ PR E (x + 1) (courtW E (x + 1) co) H ∧ HW E x H) => h) (fun rv H h => ?_)) (fun q hq => hq.elim)
    obtain ⟨h1, H0, h2, hF⟩ := h
    exact ⟨_, co, h1, Or.inl ⟨by omega, rfl⟩, h2.2.1.kept hF 28 rfl (fun q _ _ z => z.elim), h2.2.2.kept hF (fun q _ _ z => z.elim)⟩
theorem p_L_close (l : Launch) (hl : l.stackTraces = false) (E : Nat → Nat → Nat) (x : Nat) (co : Nat → Int → Int) (k : Int) (hO : OkC co) (gk : Rg k) : MuW l yL_close cL_close 3 (some .int) [(0, 5, 6, 31), (0, 5, 11, 21)] 11 1 6 E [(x + 1, 28), (x + 85, 2), (x + 87, 224)] [.ref x, .int (zI k)] (fun H => PR E x [(x, .inr (11, [.ref (x + 1), .ref (x + 29), .ref (x + 57), .ref (x + 85), .ref (x + 311), .ref (x + 314), .ref (x + 319), .ref (x + 332), .int (zI 0), .int (zI (-1)), .int (zI (-1)), .int (zI 0)]))] H ∧ PR E (x + 1) (courtW E (x + 1) co) H ∧ HW E x H) (fun rv H => ∃ (r : Int) (co1 : Nat → Int → Int), rv = some (.int (zI r)) ∧ ((¬ flC co 6 k 0 0 = 0 ∧ co1 = co) ∨ (flC co 6 k 0 0 = 0 ∧ co1 = opC co 6 k 0 0 0)) ∧ PR E (x + 1) (courtW E (x + 1) co1) H ∧ HW E x H) := by
  have hb := flC_b co 6 k 0 0
  rcases (show flC co 6 k 0 0 = 0 ∨ flC co 6 k 0 0 = 1 ∨ flC co 6 k 0 0 = 2 ∨ flC co 6 k 0 0 = 3 ∨ flC co 6 k 0 0 = 4 by omega) with q | q | q | q | q
  · refine MuW.mono2 (MuW.exi (Pr := fun t H => ((0 ≤ t.2.1 ∧ t.2.1 < 8) ∧ 0 ≤ t.2.2 ∧ t.2.2 ≤ 8) ∧ PR E x [(x, .inr (11, [.ref (x + 1), .ref (x + 29), .ref (x + 57), .ref (x + 85), .ref (x + 311), .ref (x + 314), .ref (x + 319), .ref (x + 332), .int (zI 0), .int (zI (-1)), .int (zI (-1)), .int (zI 0)]))] H ∧ PR E (x + 1) (courtW E (x + 1) co) H ∧ HWb E x t H) (fun t => MuW.pre (fun h0 => MuW.mono2 (w_X9_close l hl E x co 0 (-1) (-1) 0 k t.1 t.2.1 t.2.2 hO gk q h0.1.1 h0.1.2 h0.2.1 h0.2.2 (by omega) (by omega) (by omega) (by omega) (by omega) (by omega)) (fun H h => ⟨h.1, h.2.1, h.2.2.2.1, h.2.2.2.2⟩) (fun rv H h => ?_)))) (fun H h => ?_) (fun _ _ h => h)
    · exact ⟨opV co 6 k 0 0 0, _, h.1, Or.inr ⟨q, rfl⟩, h.2.1, (fun j => if j = t.2.1.toNat then co else t.1 j, if t.2.1 < 7 then t.2.1 + 1 else 0, min (t.2.2 + 1) 8), ⟨⟨by dsimp only; split <;> omega, by dsimp only; split <;> omega⟩, by dsimp only; omega, by dsimp only; omega⟩, h.2.2.1, h.2.2.2⟩
    · obtain ⟨h1, h2, t, h3⟩ := h
      exact ⟨t, h3.1, h1, h2, h3⟩
  · refine MuW.rs' (rs := []) (MuW.mono2 (MuW.fr (MuW.mono2 (w_X9_close_1_t l hl E x co 0 (-1) (-1) 0 k hO gk q) (fun H h => ⟨h.1, h.2.1⟩) (fun _ _ h => h))) (fun (H : Heap) (h : PR E x [(x, .inr (11, [.ref (x + 1), .ref (x + 29), .ref (x + 57), .ref (x + 85), .ref (x + 311), .ref (x + 314), .ref (x + 319), .ref (x + 332), .int (zI 0), .int (zI (-1)), .int (zI (-1)), .int (zI 0)]))] H ∧ PR E (x + 1) (courtW E (x + 1) co) H ∧ HW E x H) => h) (fun rv H h => ?_)) (fun q hq => hq.elim)
    obtain ⟨h1, H0, h2, hF⟩ := h
    exact ⟨_, co, h1, Or.inl ⟨by omega, rfl⟩, h2.2.1.kept hF 28 rfl (fun q _ _ z => z.elim), h2.2.2.kept hF (fun q _ _ z => z.elim)⟩
  · exact absurd q fl_6_2
  · exact absurd q fl_6_3
  · refine MuW.rs' (rs := []) (MuW.mono2 (MuW.fr (MuW.mono2 (w_X9_close_4_t l hl E x co 0 (-1) (-1) 0 k hO gk q) (fun H h => ⟨h.1, h.2.1⟩) (fun _ _ h => h))) (fun (H : Heap) (h : PR E x [(x, .inr (11, [.ref (x + 1), .ref (x + 29), .ref (x + 57), .ref (x + 85), .ref (x + 311), .ref (x + 314), .ref (x + 319), .ref (x + 332), .int (zI 0), .int (zI (-1)), .int (zI (-1)), .int (zI 0)]))] H ∧ PR E (x + 1) (courtW E (x + 1) co) H ∧ HW E x H) => h) (fun rv H h => ?_)) (fun q hq => hq.elim)
    obtain ⟨h1, H0, h2, hF⟩ := h
    exact ⟨_, co, h1, Or.inl ⟨by omega, rfl⟩, h2.2.1.kept hF 28 rfl (fun q _ _ z => z.elim), h2.2.2.kept hF (fun q _ _ z => z.elim)⟩
