/-! the search -/
def reachC (se : Nat → Int → Int) (w : Int) : Nat → Int → Int := if se 2 w = 0 then updC (updC (updC se 0 (updZ (se 0) 2 (se 0 2 + 1))) 1 (updZ (se 1) (se 0 2) w)) 2 (updZ (se 2) w 1) else se
def raC (co : Nat → Int → Int) (k : Int) (se : Nat → Int → Int) : Nat → Nat → Int → Int
  | 0 => se
  | p + 1 => reachC (raC co k se p) (co 7 (k * 6 + (p : Int)))
def spC (co : Nat → Int → Int) (w : Int) (se : Nat → Int → Int) : Nat → Nat → Int → Int
  | 0 => se
  | i + 1 => if 0 < co 9 ((i : Int) * 8 + w) then raC co i (spC co w se i) (co 6 (i : Int)).toNat else spC co w se i
def bfC (co : Nat → Int → Int) (se : Nat → Int → Int) : Nat → Nat → Int → Int
  | 0 => se
  | h + 1 => spC co (bfC co se h 1 (h : Int)) (bfC co se h) (co 0 0).toNat
/-- the queue has as many as are reached, witnesses all -/
def SI (se : Nat → Int → Int) : Prop := (∀ w : Int, 0 ≤ se 2 w ∧ se 2 w ≤ 1) ∧ (se 0 2 = sumZ (fun w => se 2 w) 8) ∧ ∀ p : Int, 0 ≤ p → p < se 0 2 → 0 ≤ se 1 p ∧ se 1 p < 8
theorem sumZ_upd {f : Int → Int} {w v : Int} : ∀ (n : Nat), 0 ≤ w → w < n → sumZ (fun j => updZ f w v j) n = sumZ f n + (v - f w)
  | 0, h0, h1 => by omega
  | n + 1, h0, h1 => by
    rw [sumZ_s, sumZ_s]
    by_cases e : w = n
    · have : sumZ (fun j => updZ f w v j) n = sumZ f n := sumZ_c (fun i a b => updZ_ne f v (by omega))
      rw [this]
      show sumZ f n + updZ f w v (n : Int) = _
      rw [← e, updZ_at]
      omega
    · rw [sumZ_upd n h0 (by omega)]
      show _ + updZ f w v (n : Int) = _
      rw [updZ_ne f v (by omega)]
      omega
theorem SI.b {se : Nat → Int → Int} (h : SI se) : 0 ≤ se 0 2 ∧ se 0 2 ≤ 8 := by
  have h1 := sumZ_b (f := fun w => se 2 w) (lo := 0) (hi := 1) (n := 8) (fun w _ _ => h.1 w)
  have h2 := h.2.1
  omega
theorem SI.b7 {se : Nat → Int → Int} (h : SI se) {w : Int} (h0 : 0 ≤ w) (h1 : w < 8) (hw : se 2 w = 0) : se 0 2 ≤ 7 := by
  have e := sumZ_upd (f := se 2) (w := w) (v := 1) 8 h0 h1
  have h2 := sumZ_b (f := fun j => updZ (se 2) w 1 j) (lo := 0) (hi := 1) (n := 8) (fun j _ _ => updZ_b h.1 ⟨by omega, by omega⟩ j)
  have h3 : se 0 2 = sumZ (se 2) 8 := h.2.1
  omega
theorem reachC_SI {se : Nat → Int → Int} (h : SI se) {w : Int} (h0 : 0 ≤ w) (h1 : w < 8) : SI (reachC se w) := by
  unfold reachC
  split
  · rename_i hw
    have h7 := h.b7 h0 h1 hw
    have hb := h.b
    refine ⟨fun j => updZ_b h.1 ⟨by omega, by omega⟩ j, ?_, fun p p0 p1 => ?_⟩
    · show se 0 2 + 1 = sumZ (fun j => updZ (se 2) w 1 j) 8
      rw [sumZ_upd 8 h0 h1]
      have h3 : se 0 2 = sumZ (se 2) 8 := h.2.1
      omega
    · have p1 : p < se 0 2 + 1 := p1
      show 0 ≤ updZ (se 1) (se 0 2) w p ∧ updZ (se 1) (se 0 2) w p < 8
      unfold updZ
      split
      · omega
      · exact h.2.2 p p0 (by omega)
  · exact h
theorem raC_SI {co : Nat → Int → Int} (hO : OkC co) (k : Int) {se : Nat → Int → Int} (h : SI se) : ∀ p, SI (raC co k se p)
  | 0 => h
  | p + 1 => reachC_SI (raC_SI hO k h p) (hO.b7 _).1 (by have := hO.b7 (k * 6 + (p : Int)); omega)
theorem spC_SI {co : Nat → Int → Int} (hO : OkC co) (w : Int) {se : Nat → Int → Int} (h : SI se) : ∀ i, SI (spC co w se i)
  | 0 => h
  | i + 1 => by
    unfold spC
    split
    · exact raC_SI hO _ (spC_SI hO w h i) _
    · exact spC_SI hO w h i
theorem bfC_SI {co : Nat → Int → Int} (hO : OkC co) {se : Nat → Int → Int} (h : SI se) : ∀ i, SI (bfC co se i)
  | 0 => h
  | i + 1 => spC_SI hO _ (bfC_SI hO h i) _
set_option maxHeartbeats 4000000 in
set_option maxRecDepth 20000 in
theorem c_X7_init (l : Launch) (E : Nat → Nat → Nat) (d : Nat) : Mu l yX7_init cX7_init 1 none 2 4 18 E [(d, 1)] [.ref d] (fun H => PR E d [(d, .inr (10, [.null, .null, .int 0]))] H ∧ H.size = d + 1) (fun rv H => rv = none ∧ PR E d (searchW E d c0) H ∧ H.size = d + 5) := by
  refine Mu.start (own := RX7) rfl (by decide +kernel) (Nat.le_of_ble_eq_true rfl) ?_
  intro p e s m below meth cd args Q hQ X hr hlk hnm hM hPr
  obtain ⟨h_se, hz⟩ := hPr
  have hz0 := hz
  refine v_aload_n X dX7_init_0 1 rfl 0 rfl ?_
  refine v_objinit X kl_X7_3 dX7_init_1 4 rfl rfl ?_
  refine v_aload_n X dX7_init_4 5 rfl 0 rfl ?_
  refine v_new (ci := 9) X hM ftX6 kc_X7_9 kins_X6 kini_CaseManager_Row rfl dfX6 rfl dX7_init_5 8 rfl (k' := 1) (n' := 1) rfl rfl (fun o H1 ho hz1 hM hF h_new => ?_)
  obtain rfl : o = d + 1 := ho.trans hz
  replace hz : H1.size = d + 2 := hz1
  clear ho hz1
  have h_n_2 : PR E (d + 1) [(d + 1, .inr (9, [.null]))] H1 := h_new
  replace h_se := h_se.kept hF 1 rfl (fun q _ _ h => h.elim)
  refine v_dup X dX7_init_8 9 rfl rfl ?_
  refine v_bipush X dX7_init_9 11 rfl rfl ?_
  refine v_muI X hM (c_X6_init8 l E (d + 1)) rfl kvX6_init kiiX6_init rfl kl_X7_11 (As := [.int (zI 8)]) rfl rfl rfl dX7_init_11 14 rfl (k' := 2) (n' := 9) rfl rfl (fsI (fun q q1 q2 => (Or.inr (by omega)))) ⟨h_n_2, (by omega)⟩ (fun rv H3 lo3 hM hF hpo => ?_)
  obtain ⟨rfl, hw_0, hz9⟩ := hpo
  clear hz
  have hz := hz9; clear hz9
  replace hz : H3.size = d + 3 := hz
  have h_n_2 : PR E (d + 1) (rowW E (d + 1) 8 (fun _ => 0)) H3 := hw_0
  replace h_se := h_se.kept hF 1 rfl (fsd (by omega))
  have h_se : PR E d [(d, .inr (10, [.null, .null, .int 0])), (d + 1, .inr (9, [.ref (d + 2)])), (d + 2, .inl (E 102 0, 8, .inl (zA (fun _ => 0))))] H3 := h_se.app2 1 rfl rfl h_n_2 rfl
  show V p l e (rmL 2 4 18) s m args below meth cd Q 1 H3 lo3 2 9 14 [(0, .ref d)] [.ref (d + 1), .ref d]
  refine v_putF X hM h_se ftX7 0 rfl rfl 0 (by decide) kf_X7_14 (fun _ h => h) rfl hnm rfl rfl rfl (Nat.le_of_ble_eq_true rfl) (Or.inl (fsH (by omega) (by omega))) dX7_init_14 17 rfl (ws' := [(d, .inr (10, [.ref (d + 1), .null, .int 0])), (d + 1, .inr (9, [.ref (d + 2)])), (d + 2, .inl (E 102 0, 8, .inl (zA (fun _ => 0))))]) rfl (fun H4 lo4 hzz hM hF h_se => ?_)
  replace hz : H4.size = d + 3 := hzz.trans hz
  clear hzz
  refine v_aload_n X dX7_init_17 18 rfl 0 rfl ?_
  refine v_new (ci := 9) X hM ftX6 kc_X7_9 kins_X6 kini_CaseManager_Row rfl dfX6 rfl dX7_init_18 21 rfl (k' := 3) (n' := 10) rfl rfl (fun o H5 ho hz1 hM hF h_new => ?_)
  obtain rfl : o = d + 3 := ho.trans hz
  replace hz : H5.size = d + 4 := hz1
  clear ho hz1
  have h_n_6 : PR E (d + 3) [(d + 3, .inr (9, [.null]))] H5 := h_new
  replace h_se := h_se.kept hF 3 rfl (fun q _ _ h => h.elim)
  refine v_dup X dX7_init_21 22 rfl rfl ?_
  refine v_bipush X dX7_init_22 24 rfl rfl ?_
  refine v_muI X hM (c_X6_init8 l E (d + 3)) rfl kvX6_init kiiX6_init rfl kl_X7_11 (As := [.int (zI 8)]) rfl rfl rfl dX7_init_24 27 rfl (k' := 4) (n' := 18) rfl rfl (fsI (fun q q1 q2 => (Or.inr (by omega)))) ⟨h_n_6, (by omega)⟩ (fun rv H7 lo7 hM hF hpo => ?_)
  obtain ⟨rfl, hw_0, hz9⟩ := hpo
  clear hz
  have hz := hz9; clear hz9
  replace hz : H7.size = d + 5 := hz
  have h_n_6 : PR E (d + 3) (rowW E (d + 3) 8 (fun _ => 0)) H7 := hw_0
  replace h_se := h_se.kept hF 3 rfl (fsd (by omega))
  have h_se : PR E d [(d, .inr (10, [.ref (d + 1), .null, .int 0])), (d + 1, .inr (9, [.ref (d + 2)])), (d + 2, .inl (E 102 0, 8, .inl (zA (fun _ => 0)))), (d + 3, .inr (9, [.ref (d + 4)])), (d + 4, .inl (E 102 0, 8, .inl (zA (fun _ => 0))))] H7 := h_se.app2 3 rfl rfl h_n_6 rfl
  show V p l e (rmL 2 4 18) s m args below meth cd Q 1 H7 lo7 4 18 27 [(0, .ref d)] [.ref (d + 3), .ref d]
  refine v_putF X hM h_se ftX7 0 rfl rfl 1 (by decide) kf_X7_20 (fun _ h => h) rfl hnm rfl rfl rfl (Nat.le_of_ble_eq_true rfl) (Or.inl (fsH (by omega) (by omega))) dX7_init_27 30 rfl (ws' := [(d, .inr (10, [.ref (d + 1), .ref (d + 3), .int 0])), (d + 1, .inr (9, [.ref (d + 2)])), (d + 2, .inl (E 102 0, 8, .inl (zA (fun _ => 0)))), (d + 3, .inr (9, [.ref (d + 4)])), (d + 4, .inl (E 102 0, 8, .inl (zA (fun _ => 0))))]) rfl (fun H8 lo8 hzz hM hF h_se => ?_)
  replace hz : H8.size = d + 5 := hzz.trans hz
  clear hzz
  refine v_aload_n X dX7_init_30 31 rfl 0 rfl ?_
  refine v_iconst X dX7_init_31 32 rfl ?_
  refine v_putf X hM h_se ftX7 0 rfl rfl 2 (by decide) kf_X7_23 (fun _ h => h) rfl rfl rfl (Nat.le_of_ble_eq_true rfl) (Or.inl (fsH (by omega) (by omega))) dX7_init_32 35 rfl (ws' := [(d, .inr (10, [.ref (d + 1), .ref (d + 3), .int (zI 0)])), (d + 1, .inr (9, [.ref (d + 2)])), (d + 2, .inl (E 102 0, 8, .inl (zA (fun _ => 0)))), (d + 3, .inr (9, [.ref (d + 4)])), (d + 4, .inl (E 102 0, 8, .inl (zA (fun _ => 0))))]) rfl (fun H9 lo9 hzz hM hF h_se => ?_)
  replace hz : H9.size = d + 5 := hzz.trans hz
  clear hzz
  subst hQ; exact m_vret X hr hlk hM dX7_init_35 rfl ⟨rfl, (PR.to h_se rfl), (by omega)⟩
set_option maxHeartbeats 4000000 in
set_option maxRecDepth 20000 in
theorem c_X7_hasReached (l : Launch) (E : Nat → Nat → Nat) (d : Nat) (se : Nat → Int → Int) (w : Int) (hS : SI se) (w0 : 0 ≤ w) (w1 : w < 8) : Rd l yX7_hasReached cX7_hasReached 2 (some .boolean) 1 E [.ref d, .int (zI w)] (searchW E d se) (some (.int (zI (bz (¬ se 2 w = 0))))) := by
  refine Rd.start (own := RX7) rfl (by decide +kernel) (Nat.le_of_ble_eq_true rfl) ?_
  intro p e s m below meth cd args Q hQ X hr hlk hC hP
  have h_se := hP
  refine v_aload_n X dX7_hasReached_0 1 rfl 0 rfl ?_
  refine v_getf X hC h_se inX7 0 rfl rfl 1 (by decide) kf_X7_20 (fun _ h => h) rfl dX7_hasReached_1 4 rfl ?_
  refine v_iload_n X dX7_hasReached_4 5 rfl 1 rfl ?_
  refine v_rdV X hC (PW.part h_se 3 2 (wc := rowW E (d + 3) 8 (se 2)) rfl) (c_X6_get l E (d + 3) 8 (se 2) w w0 w1 (by omega)) kvX6_get kiX6_get kl_X7_33 rfl rfl (As := [.int (zI w)]) rfl rfl rfl dX7_hasReached_5 8 rfl ?_
  show V p l e (rmL 1 0 0) s m args below meth cd Q 2 s.heap [] 0 0 8 [(0, .ref d), (1, .int (zI w))] [.int (zI (se 2 w))]
  have hb_1 := hS.1 w
  refine v_if_eq X (by omega) dX7_hasReached_8 11 15 rfl (by decide) (fun c_2 => ?_) (fun c_2 => ?_)
  · skip
    refine v_iconst X dX7_hasReached_15 16 rfl ?_
    subst hQ; exact v_zret0 X hr hlk dX7_hasReached_16 (bz_f (by omega))
  · skip
    refine v_iconst X dX7_hasReached_11 12 rfl ?_
    refine v_goto X dX7_hasReached_12 16 (by decide) ?_
    subst hQ; exact v_zret0 X hr hlk dX7_hasReached_16 (bz_t (by omega))
set_option maxHeartbeats 4000000 in
set_option maxRecDepth 20000 in
theorem c_X7_reach (l : Launch) (E : Nat → Nat → Nat) (d : Nat) (se : Nat → Int → Int) (w : Int) (hS : SI se) (w0 : 0 ≤ w) (w1 : w < 8) : Mu l yX7_reach cX7_reach 2 none 1 0 0 E [(d, 5)] [.ref d, .int (zI w)] (fun H => PR E d (searchW E d se) H) (fun rv H => rv = none ∧ PR E d (searchW E d (reachC se w)) H) := by
  refine Mu.start (own := RX7) rfl (by decide +kernel) (Nat.le_of_ble_eq_true rfl) ?_
  intro p e s m below meth cd args Q hQ X hr hlk hnm hM hPr
  have h_se := hPr
  refine v_aload_n X dX7_reach_0 1 rfl 0 rfl ?_
  refine v_getf X hM.C h_se.1 inX7 0 rfl rfl 1 (by decide) kf_X7_20 (fun _ h => h) rfl dX7_reach_1 4 rfl ?_
  refine v_iload_n X dX7_reach_4 5 rfl 1 rfl ?_
  refine v_rdV X hM.C (PW.part h_se.1 3 2 (wc := rowW E (d + 3) 8 (se 2)) rfl) (c_X6_get l E (d + 3) 8 (se 2) w w0 w1 (by omega)) kvX6_get kiX6_get kl_X7_33 rfl rfl (As := [.int (zI w)]) rfl rfl rfl dX7_reach_5 8 rfl ?_
  show V p l e (rmL 1 0 0) s m args below meth cd Q 2 s.heap [] 0 0 8 [(0, .ref d), (1, .int (zI w))] [.int (zI (se 2 w))]
  have hb_1 := hS.1 w
  refine v_if_ne X (by omega) dX7_reach_8 11 42 rfl (by decide) (fun c_2 => ?_) (fun c_2 => ?_)
  · skip
    subst hQ; exact m_vret X hr hlk hM dX7_reach_42 rfl ⟨rfl, (PR.to h_se (by unfold reachC; first | rw [if_pos (by omega)] | rw [if_neg (by omega)]))⟩
  · skip
    refine v_aload_n X dX7_reach_11 12 rfl 0 rfl ?_
    refine v_getf X hM.C h_se.1 inX7 0 rfl rfl 1 (by decide) kf_X7_20 (fun _ h => h) rfl dX7_reach_12 15 rfl ?_
    refine v_iload_n X dX7_reach_15 16 rfl 1 rfl ?_
    refine v_iconst X dX7_reach_16 17 rfl ?_
    refine v_muV X hM (h_se.1) (c_X6_put l E (d + 3) 8 (se 2) w 1 w0 w1 (by omega)) kvX6_put kiX6_put kl_X7_60 (q0 := 3) rfl rfl (As := [.int (zI w), .int (zI 1)]) rfl rfl rfl dX7_reach_17 20 rfl (k' := 0) (n' := 0) rfl rfl (fsI (fun q q1 q2 => (Or.inl (fsH (by omega) (by omega))))) (h_se.sub 3 2 rfl (wc := rowW E (d + 3) 8 (se 2)) rfl) (fun rv H3 lo3 hM hF hpo => ?_)
    obtain ⟨rfl, hw_0⟩ := hpo
    have h_se := h_se.join 3 2 rfl hw_0 hF rfl (Nat.le_of_ble_eq_true rfl) (ws' := searchW E d (updC se 2 (updZ (se 2) w 1))) rfl
    show V p l e (rmL 1 0 0) s m args below meth cd Q 2 H3 lo3 0 0 20 [(0, .ref d), (1, .int (zI w))] []
    refine v_aload_n X dX7_reach_20 21 rfl 0 rfl ?_
    refine v_getf X hM.C h_se.1 inX7 0 rfl rfl 0 (by decide) kf_X7_14 (fun _ h => h) rfl dX7_reach_21 24 rfl ?_
    refine v_aload_n X dX7_reach_24 25 rfl 0 rfl ?_
    refine v_getf X hM.C h_se.1 inX7 0 rfl rfl 2 (by decide) kf_X7_23 (fun _ h => h) rfl dX7_reach_25 28 rfl ?_
    show V p l e (rmL 1 0 0) s m args below meth cd Q 2 H3 lo3 0 0 28 [(0, .ref d), (1, .int (zI w))] [.int (zI (se 0 2)), .ref (d + 1)]
    refine v_iload_n X dX7_reach_28 29 rfl 1 rfl ?_
    have hb_4 := hS.b
    have h7 := hS.b7 w0 w1 (by omega)
    have hsb := hS.b
    refine v_muV X hM (h_se.1) (c_X6_put l E (d + 1) 8 (se 1) (se 0 2) w (by omega) (by omega) (by omega)) kvX6_put kiX6_put kl_X7_60 (q0 := 1) rfl rfl (As := [.int (zI (se 0 2)), .int (zI w)]) rfl rfl rfl dX7_reach_29 32 rfl (k' := 0) (n' := 0) rfl rfl (fsI (fun q q1 q2 => (Or.inl (fsH (by omega) (by omega))))) (h_se.sub 1 2 rfl (wc := rowW E (d + 1) 8 (se 1)) rfl) (fun rv H5 lo5 hM hF hpo => ?_)
    obtain ⟨rfl, hw_0⟩ := hpo
    have h_se := h_se.join 1 2 rfl hw_0 hF rfl (Nat.le_of_ble_eq_true rfl) (ws' := searchW E d (updC (updC se 1 (updZ (se 1) (se 0 2) w)) 2 (updZ (se 2) w 1))) rfl
    show V p l e (rmL 1 0 0) s m args below meth cd Q 2 H5 lo5 0 0 32 [(0, .ref d), (1, .int (zI w))] []
    refine v_aload_n X dX7_reach_32 33 rfl 0 rfl ?_
    refine v_dup X dX7_reach_33 34 rfl rfl ?_
    refine v_getf X hM.C h_se.1 inX7 0 rfl rfl 2 (by decide) kf_X7_23 (fun _ h => h) rfl dX7_reach_34 37 rfl ?_
    show V p l e (rmL 1 0 0) s m args below meth cd Q 2 H5 lo5 0 0 37 [(0, .ref d), (1, .int (zI w))] [.int (zI (se 0 2)), .ref d]
    refine v_iconst X dX7_reach_37 38 rfl ?_
    refine v_iadd X dX7_reach_38 39 rfl ?_
    refine v_putf X hM h_se ftX7 0 rfl rfl 2 (by decide) kf_X7_23 (fun _ h => h) rfl rfl rfl (Nat.le_of_ble_eq_true rfl) (Or.inl (fsH (by omega) (by omega))) dX7_reach_39 42 rfl (ws' := searchW E d (updC (updC (updC se 0 (updZ (se 0) 2 (se 0 2 + 1))) 1 (updZ (se 1) (se 0 2) w)) 2 (updZ (se 2) w 1))) rfl (fun H6 lo6 hzz hM hF h_se => ?_)
    clear hzz
    subst hQ; exact m_vret X hr hlk hM dX7_reach_42 rfl ⟨rfl, (PR.to h_se (by unfold reachC; first | rw [if_pos (by omega)] | rw [if_neg (by omega)]))⟩
set_option maxHeartbeats 4000000 in
set_option maxRecDepth 20000 in
theorem c_X7_reachAllOf (l : Launch) (E : Nat → Nat → Nat) (d : Nat) (se : Nat → Int → Int) (b : Nat) (co : Nat → Int → Int) (k : Int) (hS : SI se) (hO : OkC co) (k0 : 0 ≤ k) (k1 : k < 16) (hd_se_co : d + 5 ≤ b ∨ b + 28 ≤ d) : Mu l yX7_reachAllOf cX7_reachAllOf 4 none 2 0 0 E [(d, 5)] [.ref d, .int (zI k), .ref b] (fun H => PR E d (searchW E d se) H ∧ PR E b (courtW E b co) H) (fun rv H => rv = none ∧ PR E d (searchW E d (raC co k se (co 6 k).toNat)) H) := by
  refine Mu.start (own := RX7) rfl (by decide +kernel) (Nat.le_of_ble_eq_true rfl) ?_
  intro p e s m below meth cd args Q hQ X hr hlk hnm hM hPr
  obtain ⟨h_se, h_co⟩ := hPr
  refine v_iconst X dX7_reachAllOf_0 1 rfl ?_
  refine v_istore_n X dX7_reachAllOf_1 2 rfl rfl (by decide) (L' := [(3, .int (zI 0)), (0, .ref d), (1, .int (zI k)), (2, .ref b)]) rfl ?_
  refine V_L (L' := [(3, .int (zI 0)), (0, .ref d), (1, .int (zI k)), (2, .ref b)]) (LC rfl (LC rfl (LC rfl (LC rfl rfl)))) ?_
  refine up_loop ((co 6 k).toNat) (P := fun (i : Nat) => ∀ (H : Heap) (lo : List Loc), MS E [(d, 5)] s H lo → PR E d (searchW E d (raC co k se i)) H → PR E b (courtW E b co) H → V p l e (rmL 2 0 0) s m args below meth cd Q 4 H lo 0 0 2 [(3, .int (zI (i : Int))), (0, .ref d), (1, .int (zI k)), (2, .ref b)] []) (fun i hi_i ih_i H1 lo1 hM h_se h_co => ?_) _ _ hM (PR.to h_se (by rfl)) h_co
  have hb6 := hO.b6 k
  refine v_iload_n X dX7_reachAllOf_2 3 rfl 0 rfl ?_
  refine v_aload_n X dX7_reachAllOf_3 4 rfl 3 rfl ?_
  refine v_getfN X hM.C h_co.1 inX0 0 rfl rfl 9 (by decide) kfn_X7_53 (fun _ h => h) rfl dX7_reachAllOf_4 7 rfl ?_
  refine v_iload_n X dX7_reachAllOf_7 8 rfl 2 rfl ?_
  refine v_rdV X hM.C (PW.part h_co.1 11 2 (wc := rowW E (b + 11) 16 (co 6)) rfl) (c_X6_get l E (b + 11) 16 (co 6) k k0 k1 (by omega)) kvX6_get kiX6_get kl_X7_33 rfl rfl (As := [.int (zI k)]) rfl rfl rfl dX7_reachAllOf_8 11 rfl ?_
  show V p l e (rmL 2 0 0) s m args below meth cd Q 4 H1 lo1 0 0 11 [(3, .int (zI (i : Int))), (0, .ref d), (1, .int (zI k)), (2, .ref b)] [.int (zI (co 6 k)), .int (zI (i : Int))]
  have hb_2 := hO.b6 k
  refine v_icmp_ge X (by omega) (by omega) dX7_reachAllOf_11 14 30 rfl (by decide) (fun c_3 => ?_) (fun c_3 => ?_)
  · skip
    subst hQ; exact m_vret X hr hlk hM dX7_reachAllOf_30 rfl ⟨rfl, (PR.to h_se (by rw [show i = (co 6 k).toNat by omega]))⟩
  · skip
    refine v_aload_n X dX7_reachAllOf_14 15 rfl 1 rfl ?_
    refine v_aload_n X dX7_reachAllOf_15 16 rfl 3 rfl ?_
    refine v_iload_n X dX7_reachAllOf_16 17 rfl 2 rfl ?_
    refine v_iload_n X dX7_reachAllOf_17 18 rfl 0 rfl ?_
    refine v_rdV X hM.C h_co.1 (c_X0_witnessHeardAt l E b co k (i : Int) k0 k1 (by omega) (by omega)) kvX0_witnessHeardAt kiX0_witnessHeardAt kl_X7_56 rfl rfl (As := [.int (zI k), .int (zI (i : Int))]) rfl rfl rfl dX7_reachAllOf_18 21 rfl ?_
    show V p l e (rmL 2 0 0) s m args below meth cd Q 4 H1 lo1 0 0 21 [(3, .int (zI (i : Int))), (0, .ref d), (1, .int (zI k)), (2, .ref b)] [.int (zI (co 7 (k * 6 + (i : Int)))), .ref d]
    have hb_4 := hO.b7 (k * 6 + (i : Int))
    refine v_muV X hM (h_se.1) (c_X7_reach l E d (raC co k se i) (co 7 (k * 6 + (i : Int))) (raC_SI hO k hS i) (by omega) (by omega)) kvX7_reach kiX7_reach kl_X7_30 (q0 := 0) rfl rfl (As := [.int (zI (co 7 (k * 6 + (i : Int))))]) rfl rfl rfl dX7_reachAllOf_21 24 rfl (k' := 0) (n' := 0) rfl rfl (fsI (fun q q1 q2 => (Or.inl (fsH (by omega) (by omega))))) h_se (fun rv H5 lo5 hM hF hpo => ?_)
    obtain ⟨rfl, hw_0⟩ := hpo
    have h_se : PR E d (searchW E d (reachC (raC co k se i) (co 7 (k * 6 + (i : Int))))) H5 := hw_0
    replace h_co := h_co.kept hF 28 rfl (fsd (by omega))
    show V p l e (rmL 2 0 0) s m args below meth cd Q 4 H5 lo5 0 0 24 [(3, .int (zI (i : Int))), (0, .ref d), (1, .int (zI k)), (2, .ref b)] []
    refine v_iinc X dX7_reachAllOf_24 27 rfl 0 rfl (by decide) (L' := [(3, .int (zI ((i : Int) + 1))), (0, .ref d), (1, .int (zI k)), (2, .ref b)]) rfl ?_
    refine v_goto X dX7_reachAllOf_27 2 (by decide) ?_
    exact V_L (L' := [(3, .int (zI ((i + 1 : Nat) : Int))), (0, .ref d), (1, .int (zI k)), (2, .ref b)]) (LC (vz (by omega)) (LC rfl (LC rfl (LC rfl rfl)))) (ih_i (by omega) _ _ hM (PR.to h_se (by rfl)) h_co)
set_option maxHeartbeats 4000000 in
set_option maxRecDepth 20000 in
theorem c_X7_spreadFrom (l : Launch) (E : Nat → Nat → Nat) (d : Nat) (se : Nat → Int → Int) (b : Nat) (co : Nat → Int → Int) (w : Int) (hS : SI se) (hO : OkC co) (w0 : 0 ≤ w) (w1 : w < 8) (hd_se_co : d + 5 ≤ b ∨ b + 28 ≤ d) : Mu l yX7_spreadFrom cX7_spreadFrom 4 none 3 0 0 E [(d, 5)] [.ref d, .int (zI w), .ref b] (fun H => PR E d (searchW E d se) H ∧ PR E b (courtW E b co) H) (fun rv H => rv = none ∧ PR E d (searchW E d (spC co w se (co 0 0).toNat)) H) := by
  refine Mu.start (own := RX7) rfl (by decide +kernel) (Nat.le_of_ble_eq_true rfl) ?_
  intro p e s m below meth cd args Q hQ X hr hlk hnm hM hPr
  obtain ⟨h_se, h_co⟩ := hPr
  refine v_iconst X dX7_spreadFrom_0 1 rfl ?_
  refine v_istore_n X dX7_spreadFrom_1 2 rfl rfl (by decide) (L' := [(3, .int (zI 0)), (0, .ref d), (1, .int (zI w)), (2, .ref b)]) rfl ?_
  refine V_L (L' := [(3, .int (zI 0)), (0, .ref d), (1, .int (zI w)), (2, .ref b)]) (LC rfl (LC rfl (LC rfl (LC rfl rfl)))) ?_
  refine up_loop ((co 0 0).toNat) (P := fun (i : Nat) => ∀ (H : Heap) (lo : List Loc), MS E [(d, 5)] s H lo → PR E d (searchW E d (spC co w se i)) H → PR E b (courtW E b co) H → V p l e (rmL 3 0 0) s m args below meth cd Q 4 H lo 0 0 2 [(3, .int (zI (i : Int))), (0, .ref d), (1, .int (zI w)), (2, .ref b)] []) (fun i hi_i ih_i H1 lo1 hM h_se h_co => ?_) _ _ hM (PR.to h_se (by rfl)) h_co
  refine v_iload_n X dX7_spreadFrom_2 3 rfl 0 rfl ?_
  refine v_aload_n X dX7_spreadFrom_3 4 rfl 3 rfl ?_
  refine v_getfN X hM.C h_co.1 inX0 0 rfl rfl 0 (by decide) kfn_X7_41 (fun _ h => h) rfl dX7_spreadFrom_4 7 rfl ?_
  show V p l e (rmL 3 0 0) s m args below meth cd Q 4 H1 lo1 0 0 7 [(3, .int (zI (i : Int))), (0, .ref d), (1, .int (zI w)), (2, .ref b)] [.int (zI (co 0 0)), .int (zI (i : Int))]
  have hb_3 := hO.b0
  refine v_icmp_ge X (by omega) (by omega) dX7_spreadFrom_7 10 31 rfl (by decide) (fun c_2 => ?_) (fun c_2 => ?_)
  · skip
    subst hQ; exact m_vret X hr hlk hM dX7_spreadFrom_31 rfl ⟨rfl, (PR.to h_se (by rw [show i = (co 0 0).toNat by omega]))⟩
  · skip
    refine v_aload_n X dX7_spreadFrom_10 11 rfl 3 rfl ?_
    refine v_iload_n X dX7_spreadFrom_11 12 rfl 0 rfl ?_
    refine v_iload_n X dX7_spreadFrom_12 13 rfl 2 rfl ?_
    refine v_rdV X hM.C h_co.1 (c_X0_hasHeard l E b co (i : Int) w hO (by omega) (by omega) w0 w1) kvX0_hasHeard kiX0_hasHeard kl_X7_46 rfl rfl (As := [.int (zI (i : Int)), .int (zI w)]) rfl rfl rfl dX7_spreadFrom_13 16 rfl ?_
    show V p l e (rmL 3 0 0) s m args below meth cd Q 4 H1 lo1 0 0 16 [(3, .int (zI (i : Int))), (0, .ref d), (1, .int (zI w)), (2, .ref b)] [.int (zI (bz (0 < co 9 ((i : Int) * 8 + w))))]
    refine v_bif_eq X dX7_spreadFrom_16 19 25 rfl (by decide) (fun c_4 => ?_) (fun c_4 => ?_)
    · skip
      refine v_iinc X dX7_spreadFrom_25 28 rfl 0 rfl (by decide) (L' := [(3, .int (zI ((i : Int) + 1))), (0, .ref d), (1, .int (zI w)), (2, .ref b)]) rfl ?_
      refine v_goto X dX7_spreadFrom_28 2 (by decide) ?_
      exact V_L (L' := [(3, .int (zI ((i + 1 : Nat) : Int))), (0, .ref d), (1, .int (zI w)), (2, .ref b)]) (LC (vz (by omega)) (LC rfl (LC rfl (LC rfl rfl)))) (ih_i (by omega) _ _ hM (PR.to h_se (by rw [spC]; first | (rw [if_pos (by assumption)]; done) | (rw [if_neg (by assumption)]; done))) h_co)
    · skip
      refine v_aload_n X dX7_spreadFrom_19 20 rfl 1 rfl ?_
      refine v_iload_n X dX7_spreadFrom_20 21 rfl 0 rfl ?_
      refine v_aload_n X dX7_spreadFrom_21 22 rfl 3 rfl ?_
      refine v_muV X hM (h_se.1) (c_X7_reachAllOf l E d (spC co w se i) b co (i : Int) (spC_SI hO w hS i) hO (by omega) (by omega) hd_se_co) kvX7_reachAllOf kiX7_reachAllOf kl_X7_50 (q0 := 0) rfl rfl (As := [.int (zI (i : Int)), .ref b]) rfl rfl rfl dX7_spreadFrom_22 25 rfl (k' := 0) (n' := 0) rfl rfl (fsI (fun q q1 q2 => (Or.inl (fsH (by omega) (by omega))))) ⟨h_se, h_co⟩ (fun rv H5 lo5 hM hF hpo => ?_)
      obtain ⟨rfl, hw_0⟩ := hpo
      have h_se : PR E d (searchW E d (raC co (i : Int) (spC co w se i) (co 6 (i : Int)).toNat)) H5 := hw_0
      replace h_co := h_co.kept hF 28 rfl (fsd (by omega))
      show V p l e (rmL 3 0 0) s m args below meth cd Q 4 H5 lo5 0 0 25 [(3, .int (zI (i : Int))), (0, .ref d), (1, .int (zI w)), (2, .ref b)] []
      refine v_iinc X dX7_spreadFrom_25 28 rfl 0 rfl (by decide) (L' := [(3, .int (zI ((i : Int) + 1))), (0, .ref d), (1, .int (zI w)), (2, .ref b)]) rfl ?_
      refine v_goto X dX7_spreadFrom_28 2 (by decide) ?_
      exact V_L (L' := [(3, .int (zI ((i + 1 : Nat) : Int))), (0, .ref d), (1, .int (zI w)), (2, .ref b)]) (LC (vz (by omega)) (LC rfl (LC rfl (LC rfl rfl)))) (ih_i (by omega) _ _ hM (PR.to h_se (by rw [spC]; first | (rw [if_pos (by assumption)]; done) | (rw [if_neg (by assumption)]; done))) h_co)
/-- the search before its first step, from what it was -/
def s0C (se : Nat → Int → Int) : Nat → Int → Int := updC (updC se 0 (updZ (se 0) 2 0)) 2 (fun _ => 0)
theorem s0C_SI (se : Nat → Int → Int) : SI (s0C se) := ⟨fun w => ⟨Int.le_refl 0, by show (0 : Int) ≤ 1; decide⟩, by
  show (0 : Int) = sumZ (fun _ => 0) 8
  decide, fun p p0 p1 => by
  have p1 : p < 0 := p1
  omega⟩
def stC (co : Nat → Int → Int) (se : Nat → Int → Int) (w : Int) : Nat → Nat → Int → Int := bfC co (reachC (s0C se) w)
theorem stC_SI {co : Nat → Int → Int} (hO : OkC co) (se : Nat → Int → Int) {w : Int} (h0 : 0 ≤ w) (h1 : w < 8) (h : Nat) : SI (stC co se w h) := bfC_SI hO (reachC_SI (s0C_SI se) h0 h1) h
set_option maxHeartbeats 4000000 in
set_option maxRecDepth 20000 in
theorem c_X7_startAt (l : Launch) (E : Nat → Nat → Nat) (d : Nat) (se : Nat → Int → Int) (b : Nat) (co : Nat → Int → Int) (w : Int) (hO : OkC co) (w0 : 0 ≤ w) (w1 : w < 8) (hd_se_co : d + 5 ≤ b ∨ b + 28 ≤ d) : Mu l yX7_startAt cX7_startAt 4 none 4 0 0 E [(d, 5)] [.ref d, .int (zI w), .ref b] (fun H => PR E d (searchW E d se) H ∧ PR E b (courtW E b co) H) (fun rv H => ∃ h : Nat, rv = none ∧ h ≤ 8 ∧ (8 ≤ h ∨ stC co se w h 0 2 ≤ (h : Int)) ∧ (∀ j : Nat, j < h → (j : Int) < stC co se w j 0 2) ∧ PR E d (searchW E d (stC co se w h)) H) := by
  refine Mu.start (own := RX7) rfl (by decide +kernel) (Nat.le_of_ble_eq_true rfl) ?_
  intro p e s m below meth cd args Q hQ X hr hlk hnm hM hPr
  obtain ⟨h_se, h_co⟩ := hPr
  refine v_aload_n X dX7_startAt_0 1 rfl 0 rfl ?_
  refine v_getf X hM.C h_se.1 inX7 0 rfl rfl 1 (by decide) kf_X7_20 (fun _ h => h) rfl dX7_startAt_1 4 rfl ?_
  refine v_muV X hM (h_se.1) (c_X6_clear l E (d + 3) 8 (se 2) (by omega)) kvX6_clear kiX6_clear kl_X7_27 (q0 := 3) rfl rfl (As := []) rfl rfl rfl dX7_startAt_4 7 rfl (k' := 0) (n' := 0) rfl rfl (fsI (fun q q1 q2 => (Or.inl (fsH (by omega) (by omega))))) (h_se.sub 3 2 rfl (wc := rowW E (d + 3) 8 (se 2)) rfl) (fun rv H1 lo1 hM hF hpo => ?_)
  obtain ⟨rfl, hw_0⟩ := hpo
  have h_se := h_se.join 3 2 rfl hw_0 hF rfl (Nat.le_of_ble_eq_true rfl) (ws' := searchW E d (updC se 2 (fun _ => 0))) rfl
  replace h_co := h_co.kept hF 28 rfl (fsd (by omega))
  show V p l e (rmL 4 0 0) s m args below meth cd Q 4 H1 lo1 0 0 7 [(0, .ref d), (1, .int (zI w)), (2, .ref b)] []
  refine v_aload_n X dX7_startAt_7 8 rfl 0 rfl ?_
  refine v_iconst X dX7_startAt_8 9 rfl ?_
  refine v_putf X hM h_se ftX7 0 rfl rfl 2 (by decide) kf_X7_23 (fun _ h => h) rfl rfl rfl (Nat.le_of_ble_eq_true rfl) (Or.inl (fsH (by omega) (by omega))) dX7_startAt_9 12 rfl (ws' := searchW E d (updC (updC se 0 (updZ (se 0) 2 0)) 2 (fun _ => 0))) rfl (fun H2 lo2 hzz hM hF h_se => ?_)
  clear hzz
  replace h_co := h_co.kept hF 28 rfl (fsd (by omega))
  refine v_aload_n X dX7_startAt_12 13 rfl 0 rfl ?_
  refine v_iload_n X dX7_startAt_13 14 rfl 1 rfl ?_
  refine v_muV X hM (h_se.1) (c_X7_reach l E d (updC (updC se 0 (updZ (se 0) 2 0)) 2 (fun _ => 0)) w (s0C_SI (updC (updC se 0 (updZ (se 0) 2 0)) 2 (fun _ => 0))) w0 w1) kvX7_reach kiX7_reach kl_X7_30 (q0 := 0) rfl rfl (As := [.int (zI w)]) rfl rfl rfl dX7_startAt_14 17 rfl (k' := 0) (n' := 0) rfl rfl (fsI (fun q q1 q2 => (Or.inl (fsH (by omega) (by omega))))) h_se (fun rv H3 lo3 hM hF hpo => ?_)
  obtain ⟨rfl, hw_0⟩ := hpo
  have h_se : PR E d (searchW E d (reachC (updC (updC se 0 (updZ (se 0) 2 0)) 2 (fun _ => 0)) w)) H3 := hw_0
  replace h_co := h_co.kept hF 28 rfl (fsd (by omega))
  show V p l e (rmL 4 0 0) s m args below meth cd Q 4 H3 lo3 0 0 17 [(0, .ref d), (1, .int (zI w)), (2, .ref b)] []
  refine v_iconst X dX7_startAt_17 18 rfl ?_
  refine v_istore_n X dX7_startAt_18 19 rfl rfl (by decide) (L' := [(3, .int (zI 0)), (0, .ref d), (1, .int (zI w)), (2, .ref b)]) rfl ?_
  refine V_L (L' := [(3, .int (zI 0)), (0, .ref d), (1, .int (zI w)), (2, .ref b)]) (LC rfl (LC rfl (LC rfl (LC rfl rfl)))) ?_
  refine up_loop 8 (P := fun (i : Nat) => (∀ j : Nat, j < i → (j : Int) < stC co se w j 0 2) → ∀ (H : Heap) (lo : List Loc), MS E [(d, 5)] s H lo → PR E d (searchW E d (stC co se w i)) H → PR E b (courtW E b co) H → V p l e (rmL 4 0 0) s m args below meth cd Q 4 H lo 0 0 19 [(3, .int (zI (i : Int))), (0, .ref d), (1, .int (zI w)), (2, .ref b)] []) (fun i hi_i ih_i hlt H4 lo4 hM h_se h_co => ?_) (fun j hj => absurd hj (Nat.not_lt_zero j)) _ _ hM (PR.to h_se (by rfl)) h_co
  have hSi := stC_SI hO se w0 w1 i
  have hSb := hSi.b
  refine v_iload_n X dX7_startAt_19 20 rfl 0 rfl ?_
  refine v_aload_n X dX7_startAt_20 21 rfl 1 rfl ?_
  refine v_getf X hM.C h_se.1 inX7 0 rfl rfl 2 (by decide) kf_X7_23 (fun _ h => h) rfl dX7_startAt_21 24 rfl ?_
  show V p l e (rmL 4 0 0) s m args below meth cd Q 4 H4 lo4 0 0 24 [(3, .int (zI (i : Int))), (0, .ref d), (1, .int (zI w)), (2, .ref b)] [.int (zI ((stC co se w i) 0 2)), .int (zI (i : Int))]
  refine v_icmp_ge X (by omega) (by omega) dX7_startAt_24 27 52 rfl (by decide) (fun c_5 => ?_) (fun c_5 => ?_)
  · skip
    subst hQ; exact m_vret X hr hlk hM dX7_startAt_52 rfl ⟨i, rfl, (by omega), (by omega), (by exact hlt), h_se⟩
  · skip
    refine v_iload_n X dX7_startAt_27 28 rfl 0 rfl ?_
    refine v_bipush X dX7_startAt_28 30 rfl rfl ?_
    refine v_icmp_ge X (by omega) (by omega) dX7_startAt_30 33 52 rfl (by decide) (fun c_6 => ?_) (fun c_6 => ?_)
    · skip
      subst hQ; exact m_vret X hr hlk hM dX7_startAt_52 rfl ⟨i, rfl, (by omega), (by omega), (by exact hlt), h_se⟩
    · skip
      refine v_aload_n X dX7_startAt_33 34 rfl 1 rfl ?_
      refine v_aload_n X dX7_startAt_34 35 rfl 1 rfl ?_
      refine v_getf X hM.C h_se.1 inX7 0 rfl rfl 0 (by decide) kf_X7_14 (fun _ h => h) rfl dX7_startAt_35 38 rfl ?_
      refine v_iload_n X dX7_startAt_38 39 rfl 0 rfl ?_
      refine v_rdV X hM.C (PW.part h_se.1 1 2 (wc := rowW E (d + 1) 8 ((stC co se w i) 1)) rfl) (c_X6_get l E (d + 1) 8 ((stC co se w i) 1) (i : Int) (by omega) (by omega) (by omega)) kvX6_get kiX6_get kl_X7_33 rfl rfl (As := [.int (zI (i : Int))]) rfl rfl rfl dX7_startAt_39 42 rfl ?_
      show V p l e (rmL 4 0 0) s m args below meth cd Q 4 H4 lo4 0 0 42 [(3, .int (zI (i : Int))), (0, .ref d), (1, .int (zI w)), (2, .ref b)] [.int (zI (((stC co se w i) 1) (i : Int))), .ref d]
      have hqv := hSi.2.2 (i : Int) (by omega) (by omega)
      refine v_aload_n X dX7_startAt_42 43 rfl 3 rfl ?_
      refine v_muV X hM (h_se.1) (c_X7_spreadFrom l E d (stC co se w i) b co (((stC co se w i) 1) (i : Int)) hSi hO (by omega) (by omega) hd_se_co) kvX7_spreadFrom kiX7_spreadFrom kl_X7_37 (q0 := 0) rfl rfl (As := [.int (zI (((stC co se w i) 1) (i : Int))), .ref b]) rfl rfl rfl dX7_startAt_43 46 rfl (k' := 0) (n' := 0) rfl rfl (fsI (fun q q1 q2 => (Or.inl (fsH (by omega) (by omega))))) ⟨h_se, h_co⟩ (fun rv H7 lo7 hM hF hpo => ?_)
      obtain ⟨rfl, hw_0⟩ := hpo
      have h_se : PR E d (searchW E d (spC co (((stC co se w i) 1) (i : Int)) (stC co se w i) (co 0 0).toNat)) H7 := hw_0
      replace h_co := h_co.kept hF 28 rfl (fsd (by omega))
      show V p l e (rmL 4 0 0) s m args below meth cd Q 4 H7 lo7 0 0 46 [(3, .int (zI (i : Int))), (0, .ref d), (1, .int (zI w)), (2, .ref b)] []
      refine v_iinc X dX7_startAt_46 49 rfl 0 rfl (by decide) (L' := [(3, .int (zI ((i : Int) + 1))), (0, .ref d), (1, .int (zI w)), (2, .ref b)]) rfl ?_
      refine v_goto X dX7_startAt_49 19 (by decide) ?_
      exact V_L (L' := [(3, .int (zI ((i + 1 : Nat) : Int))), (0, .ref d), (1, .int (zI w)), (2, .ref b)]) (LC (vz (by omega)) (LC rfl (LC rfl (LC rfl rfl)))) (ih_i (by omega) (fun j hj => (Nat.lt_or_ge j i).elim (fun q => hlt j q) (fun q => by rw [show j = i by omega]; omega)) _ _ hM (PR.to h_se (by rfl)) h_co)

