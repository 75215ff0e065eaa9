set_option maxHeartbeats 4000000 in
set_option maxRecDepth 20000 in
theorem c_X6_clear (l : Launch) (E : Nat → Nat → Nat) (b : Nat) (N : Nat) (g : Int → Int) (h2 : N < 2147483648) : Mu l yX6_clear cX6_clear 2 none 0 0 0 E [(b, 2)] [.ref b] (fun H => PR E b (rowW E b N g) H) (fun rv H => rv = none ∧ PR E b (rowW E b N (fun _ => 0)) H) := by
  refine Mu.start (own := RX6) rfl (by decide +kernel) (Nat.le_of_ble_eq_true rfl) ?_
  intro p e s m below meth cd args Q hQ X hr hlk hnm hM hPr
  have h_r := hPr
  refine v_iconst X dX6_clear_0 1 rfl ?_
  refine v_istore_n X dX6_clear_1 2 rfl rfl (by decide) (L' := [(1, .int (zI 0)), (0, .ref b)]) rfl ?_
  refine V_L (L' := [(1, .int (zI 0)), (0, .ref b)]) (LC rfl (LC rfl rfl)) ?_
  refine up_loop N (P := fun (i : Nat) => ∀ (H : Heap) (lo : List Loc), MS E [(b, 2)] s H lo → PR E b (rowW E b N (fun j => if 0 ≤ j ∧ j < (i : Int) then 0 else g j)) H → V p l e (rmL 0 0 0) s m args below meth cd Q 2 H lo 0 0 2 [(1, .int (zI (i : Int))), (0, .ref b)] []) (fun i hi_i ih_i H1 lo1 hM h_r => ?_) _ _ hM (PR.to h_r (by congr 1; funext j; rw [if_neg (by omega)]))
  refine v_iload_n X dX6_clear_2 3 rfl 0 rfl ?_
  refine v_aload_n X dX6_clear_3 4 rfl 1 rfl ?_
  refine v_getf X hM.C h_r.1 inX6 0 rfl rfl 0 (by decide) kf_X6_7 (fun _ h => h) rfl dX6_clear_4 7 rfl ?_
  refine v_alen X hM.C h_r.1 1 0 rfl rfl dX6_clear_7 8 rfl ?_
  refine v_icmp_ge X (by omega) (by omega) dX6_clear_8 11 24 rfl (by decide) (fun c_2 => ?_) (fun c_2 => ?_)
  · skip
    subst hQ; exact m_vret X hr hlk hM dX6_clear_24 rfl ⟨rfl, (h_r.arr (q0 := 1) rfl (fun j a b => if_pos (by omega)) rfl)⟩
  · skip
    refine v_aload_n X dX6_clear_11 12 rfl 1 rfl ?_
    refine v_getf X hM.C h_r.1 inX6 0 rfl rfl 0 (by decide) kf_X6_7 (fun _ h => h) rfl dX6_clear_12 15 rfl ?_
    refine v_iload_n X dX6_clear_15 16 rfl 0 rfl ?_
    refine v_iconst X dX6_clear_16 17 rfl ?_
    refine v_iast X hM h_r 1 rfl (by omega) (by omega) (by omega) (Or.inl (fsH (by omega) (by omega))) dX6_clear_17 18 rfl (ws' := rowW E b N (updZ (fun j => if 0 ≤ j ∧ j < (i : Int) then 0 else g j) (i : Int) 0)) rfl (fun H3 lo3 hzz hM hF h_r => ?_)
    clear hzz
    refine v_iinc X dX6_clear_18 21 rfl 0 rfl (by decide) (L' := [(1, .int (zI ((i : Int) + 1))), (0, .ref b)]) rfl ?_
    refine v_goto X dX6_clear_21 2 (by decide) ?_
    exact V_L (L' := [(1, .int (zI ((i + 1 : Nat) : Int))), (0, .ref b)]) (LC (vz (by omega)) (LC rfl rfl)) (ih_i (by omega) _ _ hM (PR.to h_r (by rw [clr_s])))
set_option maxHeartbeats 4000000 in
set_option maxRecDepth 20000 in
theorem c_X6_copyFrom (l : Launch) (E : Nat → Nat → Nat) (b : Nat) (d : Nat) (N : Nat) (g : Int → Int) (f : Int → Int) (h2 : N < 2147483648) (hd_r_o : b + 2 ≤ d ∨ d + 2 ≤ b) : Mu l yX6_copyFrom cX6_copyFrom 2 none 1 0 0 E [(b, 2)] [.ref b, .ref d] (fun H => PR E b (rowW E b N g) H ∧ PR E d (rowW E d N f) H) (fun rv H => rv = none ∧ PR E b (rowW E b N f) H) := by
  refine Mu.start (own := RX6) rfl (by decide +kernel) (Nat.le_of_ble_eq_true rfl) ?_
  intro p e s m below meth cd args Q hQ X hr hlk hnm hM hPr
  obtain ⟨h_r, h_o⟩ := hPr
  refine v_aload_n X dX6_copyFrom_0 1 rfl 1 rfl ?_
  refine v_getf X hM.C h_o.1 inX6 0 rfl rfl 0 (by decide) kf_X6_7 (fun _ h => h) rfl dX6_copyFrom_1 4 rfl ?_
  refine v_iconst X dX6_copyFrom_4 5 rfl ?_
  refine v_aload_n X dX6_copyFrom_5 6 rfl 0 rfl ?_
  refine v_getf X hM.C h_r.1 inX6 0 rfl rfl 0 (by decide) kf_X6_7 (fun _ h => h) rfl dX6_copyFrom_6 9 rfl ?_
  refine v_iconst X dX6_copyFrom_9 10 rfl ?_
  refine v_aload_n X dX6_copyFrom_10 11 rfl 0 rfl ?_
  refine v_getf X hM.C h_r.1 inX6 0 rfl rfl 0 (by decide) kf_X6_7 (fun _ h => h) rfl dX6_copyFrom_11 14 rfl ?_
  refine v_alen X hM.C h_r.1 1 0 rfl rfl dX6_copyFrom_14 15 rfl ?_
  refine v_aload_n X dX6_copyFrom_15 16 rfl 1 rfl ?_
  refine v_getf X hM.C h_o.1 inX6 0 rfl rfl 0 (by decide) kf_X6_7 (fun _ h => h) rfl dX6_copyFrom_16 19 rfl ?_
  refine v_alen X hM.C h_o.1 1 0 rfl rfl dX6_copyFrom_19 20 rfl ?_
  refine v_mmin X (by omega) (by omega) kl_X6_21 dX6_copyFrom_20 23 rfl rfl ?_
  refine v_copy X hM h_o.1 h_r (t0 := 0) (q0 := 1) (q1 := 1) (ty := .int) rfl rfl rfl rfl (by omega) (by omega) (by omega) (by omega) (by omega) (fun i _ _ => rfl) (Or.inl (fsH (by omega) (by omega))) kl_X6_27 rfl dX6_copyFrom_23 26 rfl (ws' := rowW E b N (fun i => if 0 ≤ i ∧ i < min (N : Int) (N : Int) then f i else g i)) rfl (fun H1 lo1 hzz hM hF h_r => ?_)
  clear hzz
  replace h_o := h_o.kept hF 2 rfl (fsd (by omega))
  subst hQ; exact m_vret X hr hlk hM dX6_copyFrom_26 rfl ⟨rfl, (h_r.arr (q0 := 1) rfl (fun j a b => if_pos (by omega)) rfl)⟩
set_option maxHeartbeats 4000000 in
set_option maxRecDepth 20000 in
theorem c_X0_copyFrom (l : Launch) (E : Nat → Nat → Nat) (b : Nat) (d : Nat) (co : Nat → Int → Int) (cq : Nat → Int → Int) (hd_co_ot : b + 28 ≤ d ∨ d + 28 ≤ b) : Mu l yX0_copyFrom cX0_copyFrom 2 none 2 0 0 E [(b, 28)] [.ref b, .ref d] (fun H => PR E b (courtW E b co) H ∧ PR E d (courtW E d cq) H) (fun rv H => rv = none ∧ PR E b (courtW E b cq) H) := by
  refine Mu.start (own := RX0) rfl (by decide +kernel) (Nat.le_of_ble_eq_true rfl) ?_
  intro p e s m below meth cd args Q hQ X hr hlk hnm hM hPr
  obtain ⟨h_co, h_ot⟩ := hPr
  refine v_aload_n X dX0_copyFrom_0 1 rfl 0 rfl ?_
  refine v_aload_n X dX0_copyFrom_1 2 rfl 1 rfl ?_
  refine v_getf X hM.C h_ot.1 inX0 0 rfl rfl 0 (by decide) kf_X0_9 (fun _ h => h) rfl dX0_copyFrom_2 5 rfl ?_
  show V p l e (rmL 2 0 0) s m args below meth cd Q 2 s.heap [] 0 0 5 [(0, .ref b), (1, .ref d)] [.int (zI (cq 0 0)), .ref b]
  refine v_putf X hM h_co ftX0 0 rfl rfl 0 (by decide) kf_X0_9 (fun _ h => h) rfl rfl rfl (Nat.le_of_ble_eq_true rfl) (Or.inl (fsH (by omega) (by omega))) dX0_copyFrom_5 8 rfl (ws' := courtW E b (updC co 0 (updZ (co 0) 0 (cq 0 0)))) rfl (fun H1 lo1 hzz hM hF h_co => ?_)
  clear hzz
  replace h_ot := h_ot.kept hF 28 rfl (fsd (by omega))
  refine v_aload_n X dX0_copyFrom_8 9 rfl 0 rfl ?_
  refine v_aload_n X dX0_copyFrom_9 10 rfl 1 rfl ?_
  refine v_getf X hM.C h_ot.1 inX0 0 rfl rfl 1 (by decide) kf_X0_15 (fun _ h => h) rfl dX0_copyFrom_10 13 rfl ?_
  show V p l e (rmL 2 0 0) s m args below meth cd Q 2 H1 lo1 0 0 13 [(0, .ref b), (1, .ref d)] [.int (zI (cq 0 1)), .ref b]
  refine v_putf X hM h_co ftX0 0 rfl rfl 1 (by decide) kf_X0_15 (fun _ h => h) rfl rfl rfl (Nat.le_of_ble_eq_true rfl) (Or.inl (fsH (by omega) (by omega))) dX0_copyFrom_13 16 rfl (ws' := courtW E b (updC co 0 (updZ (updZ (co 0) 0 (cq 0 0)) 1 (cq 0 1)))) rfl (fun H2 lo2 hzz hM hF h_co => ?_)
  clear hzz
  replace h_ot := h_ot.kept hF 28 rfl (fsd (by omega))
  refine v_aload_n X dX0_copyFrom_16 17 rfl 0 rfl ?_
  refine v_aload_n X dX0_copyFrom_17 18 rfl 1 rfl ?_
  refine v_getf X hM.C h_ot.1 inX0 0 rfl rfl 2 (by decide) kf_X0_18 (fun _ h => h) rfl dX0_copyFrom_18 21 rfl ?_
  show V p l e (rmL 2 0 0) s m args below meth cd Q 2 H2 lo2 0 0 21 [(0, .ref b), (1, .ref d)] [.int (zI (cq 0 2)), .ref b]
  refine v_putf X hM h_co ftX0 0 rfl rfl 2 (by decide) kf_X0_18 (fun _ h => h) rfl rfl rfl (Nat.le_of_ble_eq_true rfl) (Or.inl (fsH (by omega) (by omega))) dX0_copyFrom_21 24 rfl (ws' := courtW E b (updC co 0 (updZ (updZ (updZ (co 0) 0 (cq 0 0)) 1 (cq 0 1)) 2 (cq 0 2)))) rfl (fun H3 lo3 hzz hM hF h_co => ?_)
  clear hzz
  replace h_ot := h_ot.kept hF 28 rfl (fsd (by omega))
  refine v_aload_n X dX0_copyFrom_24 25 rfl 0 rfl ?_
  refine v_aload_n X dX0_copyFrom_25 26 rfl 1 rfl ?_
  refine v_getf X hM.C h_ot.1 inX0 0 rfl rfl 3 (by decide) kf_X0_21 (fun _ h => h) rfl dX0_copyFrom_26 29 rfl ?_
  show V p l e (rmL 2 0 0) s m args below meth cd Q 2 H3 lo3 0 0 29 [(0, .ref b), (1, .ref d)] [.int (zI (cq 0 3)), .ref b]
  refine v_putf X hM h_co ftX0 0 rfl rfl 3 (by decide) kf_X0_21 (fun _ h => h) rfl rfl rfl (Nat.le_of_ble_eq_true rfl) (Or.inl (fsH (by omega) (by omega))) dX0_copyFrom_29 32 rfl (ws' := courtW E b (updC co 0 (updZ (updZ (updZ (updZ (co 0) 0 (cq 0 0)) 1 (cq 0 1)) 2 (cq 0 2)) 3 (cq 0 3)))) rfl (fun H4 lo4 hzz hM hF h_co => ?_)
  clear hzz
  replace h_ot := h_ot.kept hF 28 rfl (fsd (by omega))
  refine v_aload_n X dX0_copyFrom_32 33 rfl 0 rfl ?_
  refine v_getf X hM.C h_co.1 inX0 0 rfl rfl 4 (by decide) kf_X0_29 (fun _ h => h) rfl dX0_copyFrom_33 36 rfl ?_
  refine v_aload_n X dX0_copyFrom_36 37 rfl 1 rfl ?_
  refine v_getf X hM.C h_ot.1 inX0 0 rfl rfl 4 (by decide) kf_X0_29 (fun _ h => h) rfl dX0_copyFrom_37 40 rfl ?_
  refine v_muV X hM (h_co.1) (c_X6_copyFrom l E (b + 1) (d + 1) 16 (co 1) (cq 1) (by omega) (by omega)) kvX6_copyFrom kiX6_copyFrom kl_X0_73 (q0 := 1) rfl rfl (As := [.ref (d + 1)]) rfl rfl rfl dX0_copyFrom_40 43 rfl (k' := 0) (n' := 0) rfl rfl (fsI (fun q q1 q2 => (Or.inl (fsH (by omega) (by omega))))) ⟨(h_co.sub 1 2 rfl (wc := rowW E (b + 1) 16 (co 1)) rfl), (h_ot.sub 1 2 rfl (wc := rowW E (d + 1) 16 (cq 1)) rfl)⟩ (fun rv H5 lo5 hM hF hpo => ?_)
  obtain ⟨rfl, hw_0⟩ := hpo
  have h_co := h_co.join 1 2 rfl hw_0 hF rfl (Nat.le_of_ble_eq_true rfl) (ws' := courtW E b (updC (updC co 0 (updZ (updZ (updZ (updZ (co 0) 0 (cq 0 0)) 1 (cq 0 1)) 2 (cq 0 2)) 3 (cq 0 3))) 1 (cq 1))) rfl
  replace h_ot := h_ot.kept hF 28 rfl (fsd (by omega))
  show V p l e (rmL 2 0 0) s m args below meth cd Q 2 H5 lo5 0 0 43 [(0, .ref b), (1, .ref d)] []
  refine v_aload_n X dX0_copyFrom_43 44 rfl 0 rfl ?_
  refine v_getf X hM.C h_co.1 inX0 0 rfl rfl 5 (by decide) kf_X0_33 (fun _ h => h) rfl dX0_copyFrom_44 47 rfl ?_
  refine v_aload_n X dX0_copyFrom_47 48 rfl 1 rfl ?_
  refine v_getf X hM.C h_ot.1 inX0 0 rfl rfl 5 (by decide) kf_X0_33 (fun _ h => h) rfl dX0_copyFrom_48 51 rfl ?_
  refine v_muV X hM (h_co.1) (c_X6_copyFrom l E (b + 3) (d + 3) 16 (co 2) (cq 2) (by omega) (by omega)) kvX6_copyFrom kiX6_copyFrom kl_X0_73 (q0 := 3) rfl rfl (As := [.ref (d + 3)]) rfl rfl rfl dX0_copyFrom_51 54 rfl (k' := 0) (n' := 0) rfl rfl (fsI (fun q q1 q2 => (Or.inl (fsH (by omega) (by omega))))) ⟨(h_co.sub 3 2 rfl (wc := rowW E (b + 3) 16 (co 2)) rfl), (h_ot.sub 3 2 rfl (wc := rowW E (d + 3) 16 (cq 2)) rfl)⟩ (fun rv H6 lo6 hM hF hpo => ?_)
  obtain ⟨rfl, hw_0⟩ := hpo
  have h_co := h_co.join 3 2 rfl hw_0 hF rfl (Nat.le_of_ble_eq_true rfl) (ws' := courtW E b (updC (updC (updC co 0 (updZ (updZ (updZ (updZ (co 0) 0 (cq 0 0)) 1 (cq 0 1)) 2 (cq 0 2)) 3 (cq 0 3))) 1 (cq 1)) 2 (cq 2))) rfl
  replace h_ot := h_ot.kept hF 28 rfl (fsd (by omega))
  show V p l e (rmL 2 0 0) s m args below meth cd Q 2 H6 lo6 0 0 54 [(0, .ref b), (1, .ref d)] []
  refine v_aload_n X dX0_copyFrom_54 55 rfl 0 rfl ?_
  refine v_getf X hM.C h_co.1 inX0 0 rfl rfl 6 (by decide) kf_X0_36 (fun _ h => h) rfl dX0_copyFrom_55 58 rfl ?_
  refine v_aload_n X dX0_copyFrom_58 59 rfl 1 rfl ?_
  refine v_getf X hM.C h_ot.1 inX0 0 rfl rfl 6 (by decide) kf_X0_36 (fun _ h => h) rfl dX0_copyFrom_59 62 rfl ?_
  refine v_muV X hM (h_co.1) (c_X6_copyFrom l E (b + 5) (d + 5) 16 (co 3) (cq 3) (by omega) (by omega)) kvX6_copyFrom kiX6_copyFrom kl_X0_73 (q0 := 5) rfl rfl (As := [.ref (d + 5)]) rfl rfl rfl dX0_copyFrom_62 65 rfl (k' := 0) (n' := 0) rfl rfl (fsI (fun q q1 q2 => (Or.inl (fsH (by omega) (by omega))))) ⟨(h_co.sub 5 2 rfl (wc := rowW E (b + 5) 16 (co 3)) rfl), (h_ot.sub 5 2 rfl (wc := rowW E (d + 5) 16 (cq 3)) rfl)⟩ (fun rv H7 lo7 hM hF hpo => ?_)
  obtain ⟨rfl, hw_0⟩ := hpo
  have h_co := h_co.join 5 2 rfl hw_0 hF rfl (Nat.le_of_ble_eq_true rfl) (ws' := courtW E b (updC (updC (updC (updC co 0 (updZ (updZ (updZ (updZ (co 0) 0 (cq 0 0)) 1 (cq 0 1)) 2 (cq 0 2)) 3 (cq 0 3))) 1 (cq 1)) 2 (cq 2)) 3 (cq 3))) rfl
  replace h_ot := h_ot.kept hF 28 rfl (fsd (by omega))
  show V p l e (rmL 2 0 0) s m args below meth cd Q 2 H7 lo7 0 0 65 [(0, .ref b), (1, .ref d)] []
  refine v_aload_n X dX0_copyFrom_65 66 rfl 0 rfl ?_
  refine v_getf X hM.C h_co.1 inX0 0 rfl rfl 7 (by decide) kf_X0_39 (fun _ h => h) rfl dX0_copyFrom_66 69 rfl ?_
  refine v_aload_n X dX0_copyFrom_69 70 rfl 1 rfl ?_
  refine v_getf X hM.C h_ot.1 inX0 0 rfl rfl 7 (by decide) kf_X0_39 (fun _ h => h) rfl dX0_copyFrom_70 73 rfl ?_
  refine v_muV X hM (h_co.1) (c_X6_copyFrom l E (b + 7) (d + 7) 16 (co 4) (cq 4) (by omega) (by omega)) kvX6_copyFrom kiX6_copyFrom kl_X0_73 (q0 := 7) rfl rfl (As := [.ref (d + 7)]) rfl rfl rfl dX0_copyFrom_73 76 rfl (k' := 0) (n' := 0) rfl rfl (fsI (fun q q1 q2 => (Or.inl (fsH (by omega) (by omega))))) ⟨(h_co.sub 7 2 rfl (wc := rowW E (b + 7) 16 (co 4)) rfl), (h_ot.sub 7 2 rfl (wc := rowW E (d + 7) 16 (cq 4)) rfl)⟩ (fun rv H8 lo8 hM hF hpo => ?_)
  obtain ⟨rfl, hw_0⟩ := hpo
  have h_co := h_co.join 7 2 rfl hw_0 hF rfl (Nat.le_of_ble_eq_true rfl) (ws' := courtW E b (updC (updC (updC (updC (updC co 0 (updZ (updZ (updZ (updZ (co 0) 0 (cq 0 0)) 1 (cq 0 1)) 2 (cq 0 2)) 3 (cq 0 3))) 1 (cq 1)) 2 (cq 2)) 3 (cq 3)) 4 (cq 4))) rfl
  replace h_ot := h_ot.kept hF 28 rfl (fsd (by omega))
  show V p l e (rmL 2 0 0) s m args below meth cd Q 2 H8 lo8 0 0 76 [(0, .ref b), (1, .ref d)] []
  refine v_aload_n X dX0_copyFrom_76 77 rfl 0 rfl ?_
  refine v_getf X hM.C h_co.1 inX0 0 rfl rfl 8 (by decide) kf_X0_42 (fun _ h => h) rfl dX0_copyFrom_77 80 rfl ?_
  refine v_aload_n X dX0_copyFrom_80 81 rfl 1 rfl ?_
  refine v_getf X hM.C h_ot.1 inX0 0 rfl rfl 8 (by decide) kf_X0_42 (fun _ h => h) rfl dX0_copyFrom_81 84 rfl ?_
  refine v_muV X hM (h_co.1) (c_X6_copyFrom l E (b + 9) (d + 9) 16 (co 5) (cq 5) (by omega) (by omega)) kvX6_copyFrom kiX6_copyFrom kl_X0_73 (q0 := 9) rfl rfl (As := [.ref (d + 9)]) rfl rfl rfl dX0_copyFrom_84 87 rfl (k' := 0) (n' := 0) rfl rfl (fsI (fun q q1 q2 => (Or.inl (fsH (by omega) (by omega))))) ⟨(h_co.sub 9 2 rfl (wc := rowW E (b + 9) 16 (co 5)) rfl), (h_ot.sub 9 2 rfl (wc := rowW E (d + 9) 16 (cq 5)) rfl)⟩ (fun rv H9 lo9 hM hF hpo => ?_)
  obtain ⟨rfl, hw_0⟩ := hpo
  have h_co := h_co.join 9 2 rfl hw_0 hF rfl (Nat.le_of_ble_eq_true rfl) (ws' := courtW E b (updC (updC (updC (updC (updC (updC co 0 (updZ (updZ (updZ (updZ (co 0) 0 (cq 0 0)) 1 (cq 0 1)) 2 (cq 0 2)) 3 (cq 0 3))) 1 (cq 1)) 2 (cq 2)) 3 (cq 3)) 4 (cq 4)) 5 (cq 5))) rfl
  replace h_ot := h_ot.kept hF 28 rfl (fsd (by omega))
  show V p l e (rmL 2 0 0) s m args below meth cd Q 2 H9 lo9 0 0 87 [(0, .ref b), (1, .ref d)] []
  refine v_aload_n X dX0_copyFrom_87 88 rfl 0 rfl ?_
  refine v_getf X hM.C h_co.1 inX0 0 rfl rfl 9 (by decide) kf_X0_45 (fun _ h => h) rfl dX0_copyFrom_88 91 rfl ?_
  refine v_aload_n X dX0_copyFrom_91 92 rfl 1 rfl ?_
  refine v_getf X hM.C h_ot.1 inX0 0 rfl rfl 9 (by decide) kf_X0_45 (fun _ h => h) rfl dX0_copyFrom_92 95 rfl ?_
  refine v_muV X hM (h_co.1) (c_X6_copyFrom l E (b + 11) (d + 11) 16 (co 6) (cq 6) (by omega) (by omega)) kvX6_copyFrom kiX6_copyFrom kl_X0_73 (q0 := 11) rfl rfl (As := [.ref (d + 11)]) rfl rfl rfl dX0_copyFrom_95 98 rfl (k' := 0) (n' := 0) rfl rfl (fsI (fun q q1 q2 => (Or.inl (fsH (by omega) (by omega))))) ⟨(h_co.sub 11 2 rfl (wc := rowW E (b + 11) 16 (co 6)) rfl), (h_ot.sub 11 2 rfl (wc := rowW E (d + 11) 16 (cq 6)) rfl)⟩ (fun rv H10 lo10 hM hF hpo => ?_)
  obtain ⟨rfl, hw_0⟩ := hpo
  have h_co := h_co.join 11 2 rfl hw_0 hF rfl (Nat.le_of_ble_eq_true rfl) (ws' := courtW E b (updC (updC (updC (updC (updC (updC (updC co 0 (updZ (updZ (updZ (updZ (co 0) 0 (cq 0 0)) 1 (cq 0 1)) 2 (cq 0 2)) 3 (cq 0 3))) 1 (cq 1)) 2 (cq 2)) 3 (cq 3)) 4 (cq 4)) 5 (cq 5)) 6 (cq 6))) rfl
  replace h_ot := h_ot.kept hF 28 rfl (fsd (by omega))
  show V p l e (rmL 2 0 0) s m args below meth cd Q 2 H10 lo10 0 0 98 [(0, .ref b), (1, .ref d)] []
  refine v_aload_n X dX0_copyFrom_98 99 rfl 0 rfl ?_
  refine v_getf X hM.C h_co.1 inX0 0 rfl rfl 10 (by decide) kf_X0_48 (fun _ h => h) rfl dX0_copyFrom_99 102 rfl ?_
  refine v_aload_n X dX0_copyFrom_102 103 rfl 1 rfl ?_
  refine v_getf X hM.C h_ot.1 inX0 0 rfl rfl 10 (by decide) kf_X0_48 (fun _ h => h) rfl dX0_copyFrom_103 106 rfl ?_
  refine v_muV X hM (h_co.1) (c_X6_copyFrom l E (b + 13) (d + 13) 96 (co 7) (cq 7) (by omega) (by omega)) kvX6_copyFrom kiX6_copyFrom kl_X0_73 (q0 := 13) rfl rfl (As := [.ref (d + 13)]) rfl rfl rfl dX0_copyFrom_106 109 rfl (k' := 0) (n' := 0) rfl rfl (fsI (fun q q1 q2 => (Or.inl (fsH (by omega) (by omega))))) ⟨(h_co.sub 13 2 rfl (wc := rowW E (b + 13) 96 (co 7)) rfl), (h_ot.sub 13 2 rfl (wc := rowW E (d + 13) 96 (cq 7)) rfl)⟩ (fun rv H11 lo11 hM hF hpo => ?_)
  obtain ⟨rfl, hw_0⟩ := hpo
  have h_co := h_co.join 13 2 rfl hw_0 hF rfl (Nat.le_of_ble_eq_true rfl) (ws' := courtW E b (updC (updC (updC (updC (updC (updC (updC (updC co 0 (updZ (updZ (updZ (updZ (co 0) 0 (cq 0 0)) 1 (cq 0 1)) 2 (cq 0 2)) 3 (cq 0 3))) 1 (cq 1)) 2 (cq 2)) 3 (cq 3)) 4 (cq 4)) 5 (cq 5)) 6 (cq 6)) 7 (cq 7))) rfl
  replace h_ot := h_ot.kept hF 28 rfl (fsd (by omega))
  show V p l e (rmL 2 0 0) s m args below meth cd Q 2 H11 lo11 0 0 109 [(0, .ref b), (1, .ref d)] []
  refine v_aload_n X dX0_copyFrom_109 110 rfl 0 rfl ?_
  refine v_getf X hM.C h_co.1 inX0 0 rfl rfl 11 (by decide) kf_X0_51 (fun _ h => h) rfl dX0_copyFrom_110 113 rfl ?_
  refine v_aload_n X dX0_copyFrom_113 114 rfl 1 rfl ?_
  refine v_getf X hM.C h_ot.1 inX0 0 rfl rfl 11 (by decide) kf_X0_51 (fun _ h => h) rfl dX0_copyFrom_114 117 rfl ?_
  refine v_muV X hM (h_co.1) (c_X6_copyFrom l E (b + 15) (d + 15) 128 (co 8) (cq 8) (by omega) (by omega)) kvX6_copyFrom kiX6_copyFrom kl_X0_73 (q0 := 15) rfl rfl (As := [.ref (d + 15)]) rfl rfl rfl dX0_copyFrom_117 120 rfl (k' := 0) (n' := 0) rfl rfl (fsI (fun q q1 q2 => (Or.inl (fsH (by omega) (by omega))))) ⟨(h_co.sub 15 2 rfl (wc := rowW E (b + 15) 128 (co 8)) rfl), (h_ot.sub 15 2 rfl (wc := rowW E (d + 15) 128 (cq 8)) rfl)⟩ (fun rv H12 lo12 hM hF hpo => ?_)
  obtain ⟨rfl, hw_0⟩ := hpo
  have h_co := h_co.join 15 2 rfl hw_0 hF rfl (Nat.le_of_ble_eq_true rfl) (ws' := courtW E b (updC (updC (updC (updC (updC (updC (updC (updC (updC co 0 (updZ (updZ (updZ (updZ (co 0) 0 (cq 0 0)) 1 (cq 0 1)) 2 (cq 0 2)) 3 (cq 0 3))) 1 (cq 1)) 2 (cq 2)) 3 (cq 3)) 4 (cq 4)) 5 (cq 5)) 6 (cq 6)) 7 (cq 7)) 8 (cq 8))) rfl
  replace h_ot := h_ot.kept hF 28 rfl (fsd (by omega))
  show V p l e (rmL 2 0 0) s m args below meth cd Q 2 H12 lo12 0 0 120 [(0, .ref b), (1, .ref d)] []
  refine v_aload_n X dX0_copyFrom_120 121 rfl 0 rfl ?_
  refine v_getf X hM.C h_co.1 inX0 0 rfl rfl 12 (by decide) kf_X0_54 (fun _ h => h) rfl dX0_copyFrom_121 124 rfl ?_
  refine v_aload_n X dX0_copyFrom_124 125 rfl 1 rfl ?_
  refine v_getf X hM.C h_ot.1 inX0 0 rfl rfl 12 (by decide) kf_X0_54 (fun _ h => h) rfl dX0_copyFrom_125 128 rfl ?_
  refine v_muV X hM (h_co.1) (c_X6_copyFrom l E (b + 17) (d + 17) 128 (co 9) (cq 9) (by omega) (by omega)) kvX6_copyFrom kiX6_copyFrom kl_X0_73 (q0 := 17) rfl rfl (As := [.ref (d + 17)]) rfl rfl rfl dX0_copyFrom_128 131 rfl (k' := 0) (n' := 0) rfl rfl (fsI (fun q q1 q2 => (Or.inl (fsH (by omega) (by omega))))) ⟨(h_co.sub 17 2 rfl (wc := rowW E (b + 17) 128 (co 9)) rfl), (h_ot.sub 17 2 rfl (wc := rowW E (d + 17) 128 (cq 9)) rfl)⟩ (fun rv H13 lo13 hM hF hpo => ?_)
  obtain ⟨rfl, hw_0⟩ := hpo
  have h_co := h_co.join 17 2 rfl hw_0 hF rfl (Nat.le_of_ble_eq_true rfl) (ws' := courtW E b (updC (updC (updC (updC (updC (updC (updC (updC (updC (updC co 0 (updZ (updZ (updZ (updZ (co 0) 0 (cq 0 0)) 1 (cq 0 1)) 2 (cq 0 2)) 3 (cq 0 3))) 1 (cq 1)) 2 (cq 2)) 3 (cq 3)) 4 (cq 4)) 5 (cq 5)) 6 (cq 6)) 7 (cq 7)) 8 (cq 8)) 9 (cq 9))) rfl
  replace h_ot := h_ot.kept hF 28 rfl (fsd (by omega))
  show V p l e (rmL 2 0 0) s m args below meth cd Q 2 H13 lo13 0 0 131 [(0, .ref b), (1, .ref d)] []
  refine v_aload_n X dX0_copyFrom_131 132 rfl 0 rfl ?_
  refine v_getf X hM.C h_co.1 inX0 0 rfl rfl 13 (by decide) kf_X0_57 (fun _ h => h) rfl dX0_copyFrom_132 135 rfl ?_
  refine v_aload_n X dX0_copyFrom_135 136 rfl 1 rfl ?_
  refine v_getf X hM.C h_ot.1 inX0 0 rfl rfl 13 (by decide) kf_X0_57 (fun _ h => h) rfl dX0_copyFrom_136 139 rfl ?_
  refine v_muV X hM (h_co.1) (c_X6_copyFrom l E (b + 19) (d + 19) 128 (co 10) (cq 10) (by omega) (by omega)) kvX6_copyFrom kiX6_copyFrom kl_X0_73 (q0 := 19) rfl rfl (As := [.ref (d + 19)]) rfl rfl rfl dX0_copyFrom_139 142 rfl (k' := 0) (n' := 0) rfl rfl (fsI (fun q q1 q2 => (Or.inl (fsH (by omega) (by omega))))) ⟨(h_co.sub 19 2 rfl (wc := rowW E (b + 19) 128 (co 10)) rfl), (h_ot.sub 19 2 rfl (wc := rowW E (d + 19) 128 (cq 10)) rfl)⟩ (fun rv H14 lo14 hM hF hpo => ?_)
  obtain ⟨rfl, hw_0⟩ := hpo
  have h_co := h_co.join 19 2 rfl hw_0 hF rfl (Nat.le_of_ble_eq_true rfl) (ws' := courtW E b (updC (updC (updC (updC (updC (updC (updC (updC (updC (updC (updC co 0 (updZ (updZ (updZ (updZ (co 0) 0 (cq 0 0)) 1 (cq 0 1)) 2 (cq 0 2)) 3 (cq 0 3))) 1 (cq 1)) 2 (cq 2)) 3 (cq 3)) 4 (cq 4)) 5 (cq 5)) 6 (cq 6)) 7 (cq 7)) 8 (cq 8)) 9 (cq 9)) 10 (cq 10))) rfl
  replace h_ot := h_ot.kept hF 28 rfl (fsd (by omega))
  show V p l e (rmL 2 0 0) s m args below meth cd Q 2 H14 lo14 0 0 142 [(0, .ref b), (1, .ref d)] []
  refine v_aload_n X dX0_copyFrom_142 143 rfl 0 rfl ?_
  refine v_getf X hM.C h_co.1 inX0 0 rfl rfl 14 (by decide) kf_X0_60 (fun _ h => h) rfl dX0_copyFrom_143 146 rfl ?_
  refine v_aload_n X dX0_copyFrom_146 147 rfl 1 rfl ?_
  refine v_getf X hM.C h_ot.1 inX0 0 rfl rfl 14 (by decide) kf_X0_60 (fun _ h => h) rfl dX0_copyFrom_147 150 rfl ?_
  refine v_muV X hM (h_co.1) (c_X6_copyFrom l E (b + 21) (d + 21) 8 (co 11) (cq 11) (by omega) (by omega)) kvX6_copyFrom kiX6_copyFrom kl_X0_73 (q0 := 21) rfl rfl (As := [.ref (d + 21)]) rfl rfl rfl dX0_copyFrom_150 153 rfl (k' := 0) (n' := 0) rfl rfl (fsI (fun q q1 q2 => (Or.inl (fsH (by omega) (by omega))))) ⟨(h_co.sub 21 2 rfl (wc := rowW E (b + 21) 8 (co 11)) rfl), (h_ot.sub 21 2 rfl (wc := rowW E (d + 21) 8 (cq 11)) rfl)⟩ (fun rv H15 lo15 hM hF hpo => ?_)
  obtain ⟨rfl, hw_0⟩ := hpo
  have h_co := h_co.join 21 2 rfl hw_0 hF rfl (Nat.le_of_ble_eq_true rfl) (ws' := courtW E b (updC (updC (updC (updC (updC (updC (updC (updC (updC (updC (updC (updC co 0 (updZ (updZ (updZ (updZ (co 0) 0 (cq 0 0)) 1 (cq 0 1)) 2 (cq 0 2)) 3 (cq 0 3))) 1 (cq 1)) 2 (cq 2)) 3 (cq 3)) 4 (cq 4)) 5 (cq 5)) 6 (cq 6)) 7 (cq 7)) 8 (cq 8)) 9 (cq 9)) 10 (cq 10)) 11 (cq 11))) rfl
  replace h_ot := h_ot.kept hF 28 rfl (fsd (by omega))
  show V p l e (rmL 2 0 0) s m args below meth cd Q 2 H15 lo15 0 0 153 [(0, .ref b), (1, .ref d)] []
  refine v_aload_n X dX0_copyFrom_153 154 rfl 0 rfl ?_
  refine v_getf X hM.C h_co.1 inX0 0 rfl rfl 15 (by decide) kf_X0_63 (fun _ h => h) rfl dX0_copyFrom_154 157 rfl ?_
  refine v_aload_n X dX0_copyFrom_157 158 rfl 1 rfl ?_
  refine v_getf X hM.C h_ot.1 inX0 0 rfl rfl 15 (by decide) kf_X0_63 (fun _ h => h) rfl dX0_copyFrom_158 161 rfl ?_
  refine v_muV X hM (h_co.1) (c_X6_copyFrom l E (b + 23) (d + 23) 6 (co 12) (cq 12) (by omega) (by omega)) kvX6_copyFrom kiX6_copyFrom kl_X0_73 (q0 := 23) rfl rfl (As := [.ref (d + 23)]) rfl rfl rfl dX0_copyFrom_161 164 rfl (k' := 0) (n' := 0) rfl rfl (fsI (fun q q1 q2 => (Or.inl (fsH (by omega) (by omega))))) ⟨(h_co.sub 23 2 rfl (wc := rowW E (b + 23) 6 (co 12)) rfl), (h_ot.sub 23 2 rfl (wc := rowW E (d + 23) 6 (cq 12)) rfl)⟩ (fun rv H16 lo16 hM hF hpo => ?_)
  obtain ⟨rfl, hw_0⟩ := hpo
  have h_co := h_co.join 23 2 rfl hw_0 hF rfl (Nat.le_of_ble_eq_true rfl) (ws' := courtW E b (updC (updC (updC (updC (updC (updC (updC (updC (updC (updC (updC (updC (updC co 0 (updZ (updZ (updZ (updZ (co 0) 0 (cq 0 0)) 1 (cq 0 1)) 2 (cq 0 2)) 3 (cq 0 3))) 1 (cq 1)) 2 (cq 2)) 3 (cq 3)) 4 (cq 4)) 5 (cq 5)) 6 (cq 6)) 7 (cq 7)) 8 (cq 8)) 9 (cq 9)) 10 (cq 10)) 11 (cq 11)) 12 (cq 12))) rfl
  replace h_ot := h_ot.kept hF 28 rfl (fsd (by omega))
  show V p l e (rmL 2 0 0) s m args below meth cd Q 2 H16 lo16 0 0 164 [(0, .ref b), (1, .ref d)] []
  refine v_aload_n X dX0_copyFrom_164 165 rfl 0 rfl ?_
  refine v_getf X hM.C h_co.1 inX0 0 rfl rfl 16 (by decide) kf_X0_69 (fun _ h => h) rfl dX0_copyFrom_165 168 rfl ?_
  refine v_getfN X hM.C h_co.1 inX3 25 rfl rfl 0 (by decide) kfn_X0_77 (fun _ h => h) rfl dX0_copyFrom_168 171 rfl ?_
  refine v_aload_n X dX0_copyFrom_171 172 rfl 1 rfl ?_
  refine v_getf X hM.C h_ot.1 inX0 0 rfl rfl 16 (by decide) kf_X0_69 (fun _ h => h) rfl dX0_copyFrom_172 175 rfl ?_
  refine v_getfN X hM.C h_ot.1 inX3 25 rfl rfl 0 (by decide) kfn_X0_77 (fun _ h => h) rfl dX0_copyFrom_175 178 rfl ?_
  refine v_muV X hM (h_co.1) (c_X6_copyFrom l E (b + 26) (d + 26) 8 (co 13) (cq 13) (by omega) (by omega)) kvX6_copyFrom kiX6_copyFrom kl_X0_73 (q0 := 26) rfl rfl (As := [.ref (d + 26)]) rfl rfl rfl dX0_copyFrom_178 181 rfl (k' := 0) (n' := 0) rfl rfl (fsI (fun q q1 q2 => (Or.inl (fsH (by omega) (by omega))))) ⟨(h_co.sub 26 2 rfl (wc := rowW E (b + 26) 8 (co 13)) rfl), (h_ot.sub 26 2 rfl (wc := rowW E (d + 26) 8 (cq 13)) rfl)⟩ (fun rv H17 lo17 hM hF hpo => ?_)
  obtain ⟨rfl, hw_0⟩ := hpo
  have h_co := h_co.join 26 2 rfl hw_0 hF rfl (Nat.le_of_ble_eq_true rfl) (ws' := courtW E b (updC (updC (updC (updC (updC (updC (updC (updC (updC (updC (updC (updC (updC (updC co 0 (updZ (updZ (updZ (updZ (co 0) 0 (cq 0 0)) 1 (cq 0 1)) 2 (cq 0 2)) 3 (cq 0 3))) 1 (cq 1)) 2 (cq 2)) 3 (cq 3)) 4 (cq 4)) 5 (cq 5)) 6 (cq 6)) 7 (cq 7)) 8 (cq 8)) 9 (cq 9)) 10 (cq 10)) 11 (cq 11)) 12 (cq 12)) 13 (cq 13))) rfl
  replace h_ot := h_ot.kept hF 28 rfl (fsd (by omega))
  show V p l e (rmL 2 0 0) s m args below meth cd Q 2 H17 lo17 0 0 181 [(0, .ref b), (1, .ref d)] []
  subst hQ; exact m_vret X hr hlk hM dX0_copyFrom_181 rfl ⟨rfl, h_co⟩
set_option maxHeartbeats 4000000 in
set_option maxRecDepth 20000 in
theorem c_X3_rootOf (l : Launch) (E : Nat → Nat → Nat) (b : Nat) (g : Int → Int) (w : Int) (hG : ∀ i : Int, 0 ≤ g i ∧ g i ≤ 7) (w0 : 0 ≤ w) (w1 : w ≤ 7) : Rd l yX3_rootOf cX3_rootOf 4 (some .int) 1 E [.ref b, .int (zI w)] (groupsW E b g) (some (.int (zI (rtF g 8 w)))) := by
  refine Rd.start (own := RX3) rfl (by decide +kernel) (Nat.le_of_ble_eq_true rfl) ?_
  intro p e s m below meth cd args Q hQ X hr hlk hC hP
  have h_g := hP
  refine v_iload_n X dX3_rootOf_0 1 rfl 1 rfl ?_
  refine v_istore_n X dX3_rootOf_1 2 rfl rfl (by decide) (L' := [(2, .int (zI w)), (0, .ref b), (1, .int (zI w))]) rfl ?_
  refine v_iconst X dX3_rootOf_2 3 rfl ?_
  refine v_istore_n X dX3_rootOf_3 4 rfl rfl (by decide) (L' := [(3, .int (zI 0)), (2, .int (zI w)), (0, .ref b), (1, .int (zI w))]) rfl ?_
  refine V_L (L' := [(3, .int (zI 0)), (2, .int (zI w)), (0, .ref b), (1, .int (zI w))]) (LC rfl (LC (vz (by rfl)) (LC rfl (LC rfl rfl)))) ?_
  refine up_loop 8 (P := fun (i : Nat) => ∀ (rt : Int), (rtF g (8 - i) rt = rtF g 8 w) → (0 ≤ rt ∧ rt ≤ 7) → V p l e (rmL 1 0 0) s m args below meth cd Q 4 s.heap [] 0 0 4 [(3, .int (zI (i : Int))), (2, .int (zI rt)), (0, .ref b), (1, .int (zI w))] []) (fun i hi_i ih_i rt hrt hr0 => ?_) w rfl ⟨w0, w1⟩
  refine v_iload_n X dX3_rootOf_4 5 rfl 0 rfl ?_
  refine v_bipush X dX3_rootOf_5 7 rfl rfl ?_
  refine v_icmp_ge X (by omega) (by omega) dX3_rootOf_7 10 37 rfl (by decide) (fun c_1 => ?_) (fun c_1 => ?_)
  · skip
    refine v_iload_n X dX3_rootOf_37 38 rfl 1 rfl ?_
    subst hQ; exact v_iret0 X hr hlk dX3_rootOf_38 (by first | (rw [← hrt, show 8 - i = 0 by omega]; rfl) | (rw [← hrt, rtF_root _ _ (by omega)]))
  · skip
    refine v_aload_n X dX3_rootOf_10 11 rfl 2 rfl ?_
    refine v_getf X hC h_g inX3 0 rfl rfl 0 (by decide) kf_X3_14 (fun _ h => h) rfl dX3_rootOf_11 14 rfl ?_
    refine v_iload_n X dX3_rootOf_14 15 rfl 1 rfl ?_
    refine v_rdV X hC (PW.part h_g 1 2 (wc := rowW E (b + 1) 8 g) rfl) (c_X6_get l E (b + 1) 8 g rt (by omega) (by omega) (by omega)) kvX6_get kiX6_get kl_X3_32 rfl rfl (As := [.int (zI rt)]) rfl rfl rfl dX3_rootOf_15 18 rfl ?_
    show V p l e (rmL 1 0 0) s m args below meth cd Q 4 s.heap [] 0 0 18 [(3, .int (zI (i : Int))), (2, .int (zI rt)), (0, .ref b), (1, .int (zI w))] [.int (zI (g rt))]
    have hb_2 := hG rt
    refine v_iload_n X dX3_rootOf_18 19 rfl 1 rfl ?_
    refine v_icmp_eq X (by omega) (by omega) dX3_rootOf_19 22 37 rfl (by decide) (fun c_3 => ?_) (fun c_3 => ?_)
    · skip
      refine v_iload_n X dX3_rootOf_37 38 rfl 1 rfl ?_
      subst hQ; exact v_iret0 X hr hlk dX3_rootOf_38 (by first | (rw [← hrt, show 8 - i = 0 by omega]; rfl) | (rw [← hrt, rtF_root _ _ (by omega)]))
    · skip
      refine v_aload_n X dX3_rootOf_22 23 rfl 2 rfl ?_
      refine v_getf X hC h_g inX3 0 rfl rfl 0 (by decide) kf_X3_14 (fun _ h => h) rfl dX3_rootOf_23 26 rfl ?_
      refine v_iload_n X dX3_rootOf_26 27 rfl 1 rfl ?_
      refine v_rdV X hC (PW.part h_g 1 2 (wc := rowW E (b + 1) 8 g) rfl) (c_X6_get l E (b + 1) 8 g rt (by omega) (by omega) (by omega)) kvX6_get kiX6_get kl_X3_32 rfl rfl (As := [.int (zI rt)]) rfl rfl rfl dX3_rootOf_27 30 rfl ?_
      show V p l e (rmL 1 0 0) s m args below meth cd Q 4 s.heap [] 0 0 30 [(3, .int (zI (i : Int))), (2, .int (zI rt)), (0, .ref b), (1, .int (zI w))] [.int (zI (g rt))]
      refine v_istore_n X dX3_rootOf_30 31 rfl rfl (by decide) (L' := [(2, .int (zI (g rt))), (3, .int (zI (i : Int))), (0, .ref b), (1, .int (zI w))]) rfl ?_
      refine v_iinc X dX3_rootOf_31 34 rfl 1 rfl (by decide) (L' := [(3, .int (zI ((i : Int) + 1))), (2, .int (zI (g rt))), (0, .ref b), (1, .int (zI w))]) rfl ?_
      refine v_goto X dX3_rootOf_34 4 (by decide) ?_
      exact V_L (L' := [(3, .int (zI ((i + 1 : Nat) : Int))), (2, .int (zI (g rt))), (0, .ref b), (1, .int (zI w))]) (LC (vz (by omega)) (LC (vz (by rfl)) (LC rfl (LC rfl rfl)))) (ih_i (by omega) (g rt) (by rw [← hrt, show 8 - i = (8 - (i + 1)) + 1 by omega, rtF_s, if_neg (by omega)]) (hG rt))
set_option maxHeartbeats 4000000 in
set_option maxRecDepth 20000 in
theorem c_X3_areUnited (l : Launch) (E : Nat → Nat → Nat) (b : Nat) (g : Int → Int) (x : Int) (y : Int) (hG : ∀ i : Int, 0 ≤ g i ∧ g i ≤ 7) (x0 : 0 ≤ x) (x1 : x ≤ 7) (y0 : 0 ≤ y) (y1 : y ≤ 7) : Rd l yX3_areUnited cX3_areUnited 3 (some .boolean) 2 E [.ref b, .int (zI x), .int (zI y)] (groupsW E b g) (some (.int (zI (bz (rtF g 8 x = rtF g 8 y))))) := by
  refine Rd.start (own := RX3) rfl (by decide +kernel) (Nat.le_of_ble_eq_true rfl) ?_
  intro p e s m below meth cd args Q hQ X hr hlk hC hP
  have h_g := hP
  refine v_aload_n X dX3_areUnited_0 1 rfl 0 rfl ?_
  refine v_iload_n X dX3_areUnited_1 2 rfl 1 rfl ?_
  refine v_rdV X hC h_g (c_X3_rootOf l E b g x hG x0 x1) kvX3_rootOf kiX3_rootOf kl_X3_24 rfl rfl (As := [.int (zI x)]) rfl rfl rfl dX3_areUnited_2 5 rfl ?_
  show V p l e (rmL 2 0 0) s m args below meth cd Q 3 s.heap [] 0 0 5 [(0, .ref b), (1, .int (zI x)), (2, .int (zI y))] [.int (zI (rtF g 8 x))]
  have hb_1 := hG 8
  have hf_2 := rtF_b hG 8 x (by omega) (by omega)
  refine v_aload_n X dX3_areUnited_5 6 rfl 0 rfl ?_
  refine v_iload_n X dX3_areUnited_6 7 rfl 2 rfl ?_
  refine v_rdV X hC h_g (c_X3_rootOf l E b g y hG y0 y1) kvX3_rootOf kiX3_rootOf kl_X3_24 rfl rfl (As := [.int (zI y)]) rfl rfl rfl dX3_areUnited_7 10 rfl ?_
  show V p l e (rmL 2 0 0) s m args below meth cd Q 3 s.heap [] 0 0 10 [(0, .ref b), (1, .int (zI x)), (2, .int (zI y))] [.int (zI (rtF g 8 y)), .int (zI (rtF g 8 x))]
  have hf_3 := rtF_b hG 8 y (by omega) (by omega)
  refine v_icmp_ne X (by omega) (by omega) dX3_areUnited_10 13 17 rfl (by decide) (fun c_4 => ?_) (fun c_4 => ?_)
  · skip
    refine v_iconst X dX3_areUnited_17 18 rfl ?_
    subst hQ; exact v_zret0 X hr hlk dX3_areUnited_18 (bz_f (by omega))
  · skip
    refine v_iconst X dX3_areUnited_13 14 rfl ?_
    refine v_goto X dX3_areUnited_14 18 (by decide) ?_
    subst hQ; exact v_zret0 X hr hlk dX3_areUnited_18 (bz_t (by omega))
set_option maxHeartbeats 4000000 in
set_option maxRecDepth 20000 in
theorem c_X3_sizeAround (l : Launch) (E : Nat → Nat → Nat) (b : Nat) (g : Int → Int) (w : Int) (n : Int) (hG : ∀ i : Int, 0 ≤ g i ∧ g i ≤ 7) (w0 : 0 ≤ w) (w1 : w ≤ 7) (n0 : 0 ≤ n ∧ n ≤ 8) : Rd l yX3_sizeAround cX3_sizeAround 5 (some .int) 3 E [.ref b, .int (zI w), .int (zI n)] (groupsW E b g) (some (.int (zI (sumZ (fun j => bz (rtF g 8 w = rtF g 8 j)) (n).toNat)))) := by
  refine Rd.start (own := RX3) rfl (by decide +kernel) (Nat.le_of_ble_eq_true rfl) ?_
  intro p e s m below meth cd args Q hQ X hr hlk hC hP
  have h_g := hP
  refine v_iconst X dX3_sizeAround_0 1 rfl ?_
  refine v_istore_n X dX3_sizeAround_1 2 rfl rfl (by decide) (L' := [(3, .int (zI 0)), (0, .ref b), (1, .int (zI w)), (2, .int (zI n))]) rfl ?_
  refine v_iconst X dX3_sizeAround_2 3 rfl ?_
  refine v_istore X dX3_sizeAround_3 5 rfl (by decide) (L' := [(4, .int (zI 0)), (3, .int (zI 0)), (0, .ref b), (1, .int (zI w)), (2, .int (zI n))]) rfl ?_
  refine V_L (L' := [(4, .int (zI 0)), (3, .int (zI (sumZ (fun j => bz (rtF g 8 w = rtF g 8 j)) 0))), (0, .ref b), (1, .int (zI w)), (2, .int (zI n))]) (LC rfl (LC (vz (by rfl)) (LC rfl (LC rfl (LC rfl rfl))))) ?_
  refine up_loop ((n).toNat) (P := fun (i : Nat) => V p l e (rmL 3 0 0) s m args below meth cd Q 5 s.heap [] 0 0 5 [(4, .int (zI (i : Int))), (3, .int (zI (sumZ (fun j => bz (rtF g 8 w = rtF g 8 j)) i))), (0, .ref b), (1, .int (zI w)), (2, .int (zI n))] []) (fun i hi_i ih_i => ?_)
  refine v_iload X dX3_sizeAround_5 7 rfl 0 rfl ?_
  refine v_iload_n X dX3_sizeAround_7 8 rfl 4 rfl ?_
  refine v_icmp_ge X (by omega) (by omega) dX3_sizeAround_8 11 30 rfl (by decide) (fun c_1 => ?_) (fun c_1 => ?_)
  · skip
    refine v_iload_n X dX3_sizeAround_30 31 rfl 1 rfl ?_
    subst hQ; exact v_iret0 X hr hlk dX3_sizeAround_31 (by rw [show i = (n).toNat by omega])
  · skip
    refine v_aload_n X dX3_sizeAround_11 12 rfl 2 rfl ?_
    refine v_iload_n X dX3_sizeAround_12 13 rfl 3 rfl ?_
    refine v_iload X dX3_sizeAround_13 15 rfl 0 rfl ?_
    refine v_rdV X hC h_g (c_X3_areUnited l E b g w (i : Int) hG w0 w1 (by omega) (by omega)) kvX3_areUnited kiX3_areUnited kl_X3_28 rfl rfl (As := [.int (zI w), .int (zI (i : Int))]) rfl rfl rfl dX3_sizeAround_15 18 rfl ?_
    show V p l e (rmL 3 0 0) s m args below meth cd Q 5 s.heap [] 0 0 18 [(4, .int (zI (i : Int))), (3, .int (zI (sumZ (fun j => bz (rtF g 8 w = rtF g 8 j)) i))), (0, .ref b), (1, .int (zI w)), (2, .int (zI n))] [.int (zI (bz (rtF g 8 w = rtF g 8 (i : Int))))]
    refine v_bif_eq X dX3_sizeAround_18 21 24 rfl (by decide) (fun c_2 => ?_) (fun c_2 => ?_)
    · skip
      refine v_iinc X dX3_sizeAround_24 27 rfl 0 rfl (by decide) (L' := [(4, .int (zI ((i : Int) + 1))), (3, .int (zI (sumZ (fun j => bz (rtF g 8 w = rtF g 8 j)) i))), (0, .ref b), (1, .int (zI w)), (2, .int (zI n))]) rfl ?_
      refine v_goto X dX3_sizeAround_27 5 (by decide) ?_
      exact V_L (L' := [(4, .int (zI ((i + 1 : Nat) : Int))), (3, .int (zI (sumZ (fun j => bz (rtF g 8 w = rtF g 8 j)) (i + 1)))), (0, .ref b), (1, .int (zI w)), (2, .int (zI n))]) (LC (vz (by omega)) (LC (vz (by first | rw [sumZ_s, bz_t (φ := rtF g 8 w = rtF g 8 (i : Int)) (by first | assumption | omega)] | (rw [sumZ_s, bz_f (φ := rtF g 8 w = rtF g 8 (i : Int)) (by first | assumption | omega)] <;> omega))) (LC rfl (LC rfl (LC rfl rfl))))) (ih_i (by omega))
    · skip
      refine v_iinc X dX3_sizeAround_21 24 rfl 1 rfl (by decide) (L' := [(3, .int (zI (sumZ (fun j => bz (rtF g 8 w = rtF g 8 j)) i + 1))), (4, .int (zI (i : Int))), (0, .ref b), (1, .int (zI w)), (2, .int (zI n))]) rfl ?_
      refine v_iinc X dX3_sizeAround_24 27 rfl 1 rfl (by decide) (L' := [(4, .int (zI ((i : Int) + 1))), (3, .int (zI (sumZ (fun j => bz (rtF g 8 w = rtF g 8 j)) i + 1))), (0, .ref b), (1, .int (zI w)), (2, .int (zI n))]) rfl ?_
      refine v_goto X dX3_sizeAround_27 5 (by decide) ?_
      exact V_L (L' := [(4, .int (zI ((i + 1 : Nat) : Int))), (3, .int (zI (sumZ (fun j => bz (rtF g 8 w = rtF g 8 j)) (i + 1)))), (0, .ref b), (1, .int (zI w)), (2, .int (zI n))]) (LC (vz (by omega)) (LC (vz (by first | rw [sumZ_s, bz_t (φ := rtF g 8 w = rtF g 8 (i : Int)) (by first | assumption | omega)] | (rw [sumZ_s, bz_f (φ := rtF g 8 w = rtF g 8 (i : Int)) (by first | assumption | omega)] <;> omega))) (LC rfl (LC rfl (LC rfl rfl))))) (ih_i (by omega))
set_option maxHeartbeats 4000000 in
set_option maxRecDepth 20000 in
theorem c_X3_countAmong (l : Launch) (E : Nat → Nat → Nat) (b : Nat) (g : Int → Int) (n : Int) (hG : ∀ i : Int, 0 ≤ g i ∧ g i ≤ 7) (n0 : 0 ≤ n ∧ n ≤ 8) : Rd l yX3_countAmong cX3_countAmong 4 (some .int) 1 E [.ref b, .int (zI n)] (groupsW E b g) (some (.int (zI (sumZ (fun j => bz (g j = j)) (n).toNat)))) := by
  refine Rd.start (own := RX3) rfl (by decide +kernel) (Nat.le_of_ble_eq_true rfl) ?_
  intro p e s m below meth cd args Q hQ X hr hlk hC hP
  have h_g := hP
  refine v_iconst X dX3_countAmong_0 1 rfl ?_
  refine v_istore_n X dX3_countAmong_1 2 rfl rfl (by decide) (L' := [(2, .int (zI 0)), (0, .ref b), (1, .int (zI n))]) rfl ?_
  refine v_iconst X dX3_countAmong_2 3 rfl ?_
  refine v_istore_n X dX3_countAmong_3 4 rfl rfl (by decide) (L' := [(3, .int (zI 0)), (2, .int (zI 0)), (0, .ref b), (1, .int (zI n))]) rfl ?_
  refine V_L (L' := [(3, .int (zI 0)), (2, .int (zI (sumZ (fun j => bz (g j = j)) 0))), (0, .ref b), (1, .int (zI n))]) (LC rfl (LC (vz (by rfl)) (LC rfl (LC rfl rfl)))) ?_
  refine up_loop ((n).toNat) (P := fun (i : Nat) => V p l e (rmL 1 0 0) s m args below meth cd Q 4 s.heap [] 0 0 4 [(3, .int (zI (i : Int))), (2, .int (zI (sumZ (fun j => bz (g j = j)) i))), (0, .ref b), (1, .int (zI n))] []) (fun i hi_i ih_i => ?_)
  refine v_iload_n X dX3_countAmong_4 5 rfl 0 rfl ?_
  refine v_iload_n X dX3_countAmong_5 6 rfl 3 rfl ?_
  refine v_icmp_ge X (by omega) (by omega) dX3_countAmong_6 9 30 rfl (by decide) (fun c_1 => ?_) (fun c_1 => ?_)
  · skip
    refine v_iload_n X dX3_countAmong_30 31 rfl 1 rfl ?_
    subst hQ; exact v_iret0 X hr hlk dX3_countAmong_31 (by rw [show i = (n).toNat by omega])
  · skip
    refine v_aload_n X dX3_countAmong_9 10 rfl 2 rfl ?_
    refine v_getf X hC h_g inX3 0 rfl rfl 0 (by decide) kf_X3_14 (fun _ h => h) rfl dX3_countAmong_10 13 rfl ?_
    refine v_iload_n X dX3_countAmong_13 14 rfl 0 rfl ?_
    refine v_rdV X hC (PW.part h_g 1 2 (wc := rowW E (b + 1) 8 g) rfl) (c_X6_get l E (b + 1) 8 g (i : Int) (by omega) (by omega) (by omega)) kvX6_get kiX6_get kl_X3_32 rfl rfl (As := [.int (zI (i : Int))]) rfl rfl rfl dX3_countAmong_14 17 rfl ?_
    show V p l e (rmL 1 0 0) s m args below meth cd Q 4 s.heap [] 0 0 17 [(3, .int (zI (i : Int))), (2, .int (zI (sumZ (fun j => bz (g j = j)) i))), (0, .ref b), (1, .int (zI n))] [.int (zI (g (i : Int)))]
    have hb_2 := hG (i : Int)
    refine v_iload_n X dX3_countAmong_17 18 rfl 0 rfl ?_
    refine v_icmp_ne X (by omega) (by omega) dX3_countAmong_18 21 24 rfl (by decide) (fun c_3 => ?_) (fun c_3 => ?_)
    · skip
      refine v_iinc X dX3_countAmong_24 27 rfl 0 rfl (by decide) (L' := [(3, .int (zI ((i : Int) + 1))), (2, .int (zI (sumZ (fun j => bz (g j = j)) i))), (0, .ref b), (1, .int (zI n))]) rfl ?_
      refine v_goto X dX3_countAmong_27 4 (by decide) ?_
      exact V_L (L' := [(3, .int (zI ((i + 1 : Nat) : Int))), (2, .int (zI (sumZ (fun j => bz (g j = j)) (i + 1)))), (0, .ref b), (1, .int (zI n))]) (LC (vz (by omega)) (LC (vz (by first | rw [sumZ_s, bz_t (φ := g (i : Int) = (i : Int)) (by first | assumption | omega)] | (rw [sumZ_s, bz_f (φ := g (i : Int) = (i : Int)) (by first | assumption | omega)] <;> omega))) (LC rfl (LC rfl rfl)))) (ih_i (by omega))
    · skip
      refine v_iinc X dX3_countAmong_21 24 rfl 1 rfl (by decide) (L' := [(2, .int (zI (sumZ (fun j => bz (g j = j)) i + 1))), (3, .int (zI (i : Int))), (0, .ref b), (1, .int (zI n))]) rfl ?_
      refine v_iinc X dX3_countAmong_24 27 rfl 1 rfl (by decide) (L' := [(3, .int (zI ((i : Int) + 1))), (2, .int (zI (sumZ (fun j => bz (g j = j)) i + 1))), (0, .ref b), (1, .int (zI n))]) rfl ?_
      refine v_goto X dX3_countAmong_27 4 (by decide) ?_
      exact V_L (L' := [(3, .int (zI ((i + 1 : Nat) : Int))), (2, .int (zI (sumZ (fun j => bz (g j = j)) (i + 1)))), (0, .ref b), (1, .int (zI n))]) (LC (vz (by omega)) (LC (vz (by first | rw [sumZ_s, bz_t (φ := g (i : Int) = (i : Int)) (by first | assumption | omega)] | (rw [sumZ_s, bz_f (φ := g (i : Int) = (i : Int)) (by first | assumption | omega)] <;> omega))) (LC rfl (LC rfl rfl)))) (ih_i (by omega))
set_option maxHeartbeats 4000000 in
set_option maxRecDepth 20000 in
theorem c_X3_found (l : Launch) (E : Nat → Nat → Nat) (b : Nat) (g : Int → Int) (w : Int) (w0 : 0 ≤ w) (w1 : w ≤ 7) : Mu l yX3_found cX3_found 2 none 1 0 0 E [(b, 3)] [.ref b, .int (zI w)] (fun H => PR E b (groupsW E b g) H) (fun rv H => rv = none ∧ PR E b (groupsW E b (updZ g w w)) H) := by
  refine Mu.start (own := RX3) rfl (by decide +kernel) (Nat.le_of_ble_eq_true rfl) ?_
  intro p e s m below meth cd args Q hQ X hr hlk hnm hM hPr
  have h_g := hPr
  refine v_aload_n X dX3_found_0 1 rfl 0 rfl ?_
  refine v_getf X hM.C h_g.1 inX3 0 rfl rfl 0 (by decide) kf_X3_14 (fun _ h => h) rfl dX3_found_1 4 rfl ?_
  refine v_iload_n X dX3_found_4 5 rfl 1 rfl ?_
  refine v_iload_n X dX3_found_5 6 rfl 1 rfl ?_
  refine v_muV X hM (h_g.1) (c_X6_put l E (b + 1) 8 g w w w0 (by omega) (by omega)) kvX6_put kiX6_put kl_X3_20 (q0 := 1) rfl rfl (As := [.int (zI w), .int (zI w)]) rfl rfl rfl dX3_found_6 9 rfl (k' := 0) (n' := 0) rfl rfl (fsI (fun q q1 q2 => (Or.inl (fsH (by omega) (by omega))))) (h_g.sub 1 2 rfl (wc := rowW E (b + 1) 8 g) rfl) (fun rv H1 lo1 hM hF hpo => ?_)
  obtain ⟨rfl, hw_0⟩ := hpo
  have h_g := h_g.join 1 2 rfl hw_0 hF rfl (Nat.le_of_ble_eq_true rfl) (ws' := groupsW E b (updZ g w w)) rfl
  show V p l e (rmL 1 0 0) s m args below meth cd Q 2 H1 lo1 0 0 9 [(0, .ref b), (1, .int (zI w))] []
  subst hQ; exact m_vret X hr hlk hM dX3_found_9 rfl ⟨rfl, h_g⟩
set_option maxHeartbeats 4000000 in
set_option maxRecDepth 20000 in
theorem c_X3_unite (l : Launch) (E : Nat → Nat → Nat) (b : Nat) (g : Int → Int) (x : Int) (y : Int) (hG : ∀ i : Int, 0 ≤ g i ∧ g i ≤ 7) (x0 : 0 ≤ x) (x1 : x ≤ 7) (y0 : 0 ≤ y) (y1 : y ≤ 7) : Mu l yX3_unite cX3_unite 3 none 2 0 0 E [(b, 3)] [.ref b, .int (zI x), .int (zI y)] (fun H => PR E b (groupsW E b g) H) (fun rv H => rv = none ∧ PR E b (groupsW E b (updZ g (rtF g 8 y) (rtF g 8 x))) H) := by
  refine Mu.start (own := RX3) rfl (by decide +kernel) (Nat.le_of_ble_eq_true rfl) ?_
  intro p e s m below meth cd args Q hQ X hr hlk hnm hM hPr
  have h_g := hPr
  refine v_aload_n X dX3_unite_0 1 rfl 0 rfl ?_
  refine v_getf X hM.C h_g.1 inX3 0 rfl rfl 0 (by decide) kf_X3_14 (fun _ h => h) rfl dX3_unite_1 4 rfl ?_
  refine v_aload_n X dX3_unite_4 5 rfl 0 rfl ?_
  refine v_iload_n X dX3_unite_5 6 rfl 2 rfl ?_
  refine v_rdV X hM.C h_g.1 (c_X3_rootOf l E b g y hG y0 y1) kvX3_rootOf kiX3_rootOf kl_X3_24 rfl rfl (As := [.int (zI y)]) rfl rfl rfl dX3_unite_6 9 rfl ?_
  show V p l e (rmL 2 0 0) s m args below meth cd Q 3 s.heap [] 0 0 9 [(0, .ref b), (1, .int (zI x)), (2, .int (zI y))] [.int (zI (rtF g 8 y)), .ref (b + 1)]
  have hb_1 := hG 8
  have hf_2 := rtF_b hG 8 y (by omega) (by omega)
  refine v_aload_n X dX3_unite_9 10 rfl 0 rfl ?_
  refine v_iload_n X dX3_unite_10 11 rfl 1 rfl ?_
  refine v_rdV X hM.C h_g.1 (c_X3_rootOf l E b g x hG x0 x1) kvX3_rootOf kiX3_rootOf kl_X3_24 rfl rfl (As := [.int (zI x)]) rfl rfl rfl dX3_unite_11 14 rfl ?_
  show V p l e (rmL 2 0 0) s m args below meth cd Q 3 s.heap [] 0 0 14 [(0, .ref b), (1, .int (zI x)), (2, .int (zI y))] [.int (zI (rtF g 8 x)), .int (zI (rtF g 8 y)), .ref (b + 1)]
  have hf_3 := rtF_b hG 8 x (by omega) (by omega)
  refine v_muV X hM (h_g.1) (c_X6_put l E (b + 1) 8 g (rtF g 8 y) (rtF g 8 x) (by omega) (by omega) (by omega)) kvX6_put kiX6_put kl_X3_20 (q0 := 1) rfl rfl (As := [.int (zI (rtF g 8 y)), .int (zI (rtF g 8 x))]) rfl rfl rfl dX3_unite_14 17 rfl (k' := 0) (n' := 0) rfl rfl (fsI (fun q q1 q2 => (Or.inl (fsH (by omega) (by omega))))) (h_g.sub 1 2 rfl (wc := rowW E (b + 1) 8 g) rfl) (fun rv H4 lo4 hM hF hpo => ?_)
  obtain ⟨rfl, hw_0⟩ := hpo
  have h_g := h_g.join 1 2 rfl hw_0 hF rfl (Nat.le_of_ble_eq_true rfl) (ws' := groupsW E b (updZ g (rtF g 8 y) (rtF g 8 x))) rfl
  show V p l e (rmL 2 0 0) s m args below meth cd Q 3 H4 lo4 0 0 17 [(0, .ref b), (1, .int (zI x)), (2, .int (zI y))] []
  subst hQ; exact m_vret X hr hlk hM dX3_unite_17 rfl ⟨rfl, h_g⟩
def openC (co : Nat → Int → Int) (d : Int) (o : Int) : Nat → Int → Int := updC (updC (updC (updC co 0 (updZ (co 0) 0 (co 0 0 + 1))) 1 (updZ (co 1) (co 0 0) d)) 2 (updZ (co 2) (co 0 0) o)) 3 (updZ (co 3) (co 0 0) 0)
set_option maxHeartbeats 4000000 in
set_option maxRecDepth 20000 in
theorem c_X0_openCase (l : Launch) (E : Nat → Nat → Nat) (b : Nat) (co : Nat → Int → Int) (d : Int) (o : Int) (hO : OkC co) (hc : co 0 0 < 16) : Mu l yX0_openCase cX0_openCase 4 (some .int) 1 0 0 E [(b, 28)] [.ref b, .int (zI d), .int (zI o)] (fun H => PR E b (courtW E b co) H) (fun rv H => rv = some (.int (zI (co 0 0))) ∧ PR E b (courtW E b (openC co d o)) H) := by
  refine Mu.start (own := RX0) rfl (by decide +kernel) (Nat.le_of_ble_eq_true rfl) ?_
  intro p e s m below meth cd args Q hQ X hr hlk hnm hM hPr
  have h_co := hPr
  refine v_aload_n X dX0_openCase_0 1 rfl 0 rfl ?_
  refine v_getf X hM.C h_co.1 inX0 0 rfl rfl 0 (by decide) kf_X0_9 (fun _ h => h) rfl dX0_openCase_1 4 rfl ?_
  show V p l e (rmL 1 0 0) s m args below meth cd Q 4 s.heap [] 0 0 4 [(0, .ref b), (1, .int (zI d)), (2, .int (zI o))] [.int (zI (co 0 0))]
  refine v_istore_n X dX0_openCase_4 5 rfl rfl (by decide) (L' := [(3, .int (zI (co 0 0))), (0, .ref b), (1, .int (zI d)), (2, .int (zI o))]) rfl ?_
  refine v_aload_n X dX0_openCase_5 6 rfl 1 rfl ?_
  refine v_getf X hM.C h_co.1 inX0 0 rfl rfl 4 (by decide) kf_X0_29 (fun _ h => h) rfl dX0_openCase_6 9 rfl ?_
  refine v_iload_n X dX0_openCase_9 10 rfl 0 rfl ?_
  refine v_iload_n X dX0_openCase_10 11 rfl 2 rfl ?_
  have hb_1 := hO.b0
  refine v_muV X hM (h_co.1) (c_X6_put l E (b + 1) 16 (co 1) (co 0 0) d (by omega) (by omega) (by omega)) kvX6_put kiX6_put kl_X0_173 (q0 := 1) rfl rfl (As := [.int (zI (co 0 0)), .int (zI d)]) rfl rfl rfl dX0_openCase_11 14 rfl (k' := 0) (n' := 0) rfl rfl (fsI (fun q q1 q2 => (Or.inl (fsH (by omega) (by omega))))) (h_co.sub 1 2 rfl (wc := rowW E (b + 1) 16 (co 1)) rfl) (fun rv H2 lo2 hM hF hpo => ?_)
  obtain ⟨rfl, hw_0⟩ := hpo
  have h_co := h_co.join 1 2 rfl hw_0 hF rfl (Nat.le_of_ble_eq_true rfl) (ws' := courtW E b (updC co 1 (updZ (co 1) (co 0 0) d))) rfl
  show V p l e (rmL 1 0 0) s m args below meth cd Q 4 H2 lo2 0 0 14 [(3, .int (zI (co 0 0))), (0, .ref b), (1, .int (zI d)), (2, .int (zI o))] []
  refine v_aload_n X dX0_openCase_14 15 rfl 1 rfl ?_
  refine v_getf X hM.C h_co.1 inX0 0 rfl rfl 5 (by decide) kf_X0_33 (fun _ h => h) rfl dX0_openCase_15 18 rfl ?_
  refine v_iload_n X dX0_openCase_18 19 rfl 0 rfl ?_
  refine v_iload_n X dX0_openCase_19 20 rfl 3 rfl ?_
  refine v_muV X hM (h_co.1) (c_X6_put l E (b + 3) 16 (co 2) (co 0 0) o (by omega) (by omega) (by omega)) kvX6_put kiX6_put kl_X0_173 (q0 := 3) rfl rfl (As := [.int (zI (co 0 0)), .int (zI o)]) rfl rfl rfl dX0_openCase_20 23 rfl (k' := 0) (n' := 0) rfl rfl (fsI (fun q q1 q2 => (Or.inl (fsH (by omega) (by omega))))) (h_co.sub 3 2 rfl (wc := rowW E (b + 3) 16 (co 2)) rfl) (fun rv H3 lo3 hM hF hpo => ?_)
  obtain ⟨rfl, hw_0⟩ := hpo
  have h_co := h_co.join 3 2 rfl hw_0 hF rfl (Nat.le_of_ble_eq_true rfl) (ws' := courtW E b (updC (updC co 1 (updZ (co 1) (co 0 0) d)) 2 (updZ (co 2) (co 0 0) o))) rfl
  show V p l e (rmL 1 0 0) s m args below meth cd Q 4 H3 lo3 0 0 23 [(3, .int (zI (co 0 0))), (0, .ref b), (1, .int (zI d)), (2, .int (zI o))] []
  refine v_aload_n X dX0_openCase_23 24 rfl 1 rfl ?_
  refine v_getf X hM.C h_co.1 inX0 0 rfl rfl 6 (by decide) kf_X0_36 (fun _ h => h) rfl dX0_openCase_24 27 rfl ?_
  refine v_iload_n X dX0_openCase_27 28 rfl 0 rfl ?_
  refine v_iconst X dX0_openCase_28 29 rfl ?_
  refine v_muV X hM (h_co.1) (c_X6_put l E (b + 5) 16 (co 3) (co 0 0) 0 (by omega) (by omega) (by omega)) kvX6_put kiX6_put kl_X0_173 (q0 := 5) rfl rfl (As := [.int (zI (co 0 0)), .int (zI 0)]) rfl rfl rfl dX0_openCase_29 32 rfl (k' := 0) (n' := 0) rfl rfl (fsI (fun q q1 q2 => (Or.inl (fsH (by omega) (by omega))))) (h_co.sub 5 2 rfl (wc := rowW E (b + 5) 16 (co 3)) rfl) (fun rv H4 lo4 hM hF hpo => ?_)
  obtain ⟨rfl, hw_0⟩ := hpo
  have h_co := h_co.join 5 2 rfl hw_0 hF rfl (Nat.le_of_ble_eq_true rfl) (ws' := courtW E b (updC (updC (updC co 1 (updZ (co 1) (co 0 0) d)) 2 (updZ (co 2) (co 0 0) o)) 3 (updZ (co 3) (co 0 0) 0))) rfl
  show V p l e (rmL 1 0 0) s m args below meth cd Q 4 H4 lo4 0 0 32 [(3, .int (zI (co 0 0))), (0, .ref b), (1, .int (zI d)), (2, .int (zI o))] []
  refine v_aload_n X dX0_openCase_32 33 rfl 1 rfl ?_
  refine v_iload_n X dX0_openCase_33 34 rfl 0 rfl ?_
  refine v_iconst X dX0_openCase_34 35 rfl ?_
  refine v_iadd X dX0_openCase_35 36 rfl ?_
  refine v_putf X hM h_co ftX0 0 rfl rfl 0 (by decide) kf_X0_9 (fun _ h => h) rfl rfl rfl (Nat.le_of_ble_eq_true rfl) (Or.inl (fsH (by omega) (by omega))) dX0_openCase_36 39 rfl (ws' := courtW E b (updC (updC (updC (updC co 0 (updZ (co 0) 0 (co 0 0 + 1))) 1 (updZ (co 1) (co 0 0) d)) 2 (updZ (co 2) (co 0 0) o)) 3 (updZ (co 3) (co 0 0) 0))) rfl (fun H5 lo5 hzz hM hF h_co => ?_)
  clear hzz
  refine v_iload_n X dX0_openCase_39 40 rfl 0 rfl ?_
  subst hQ; exact m_iret X hr hlk hM dX0_openCase_40 rfl ⟨rfl, h_co⟩
def registerC (co : Nat → Int → Int) (x : Int) : Nat → Int → Int := updC (updC (updC co 0 (updZ (co 0) 1 (co 0 1 + 1))) 11 (updZ (co 11) (co 0 1) x)) 13 (updZ (co 13) (co 0 1) (co 0 1))
set_option maxHeartbeats 4000000 in
set_option maxRecDepth 20000 in
theorem c_X0_register (l : Launch) (E : Nat → Nat → Nat) (b : Nat) (co : Nat → Int → Int) (x : Int) (hO : OkC co) (hc : co 0 1 < 8) : Mu l yX0_register cX0_register 3 (some .int) 2 0 0 E [(b, 28)] [.ref b, .int (zI x)] (fun H => PR E b (courtW E b co) H) (fun rv H => rv = some (.int (zI (co 0 1))) ∧ PR E b (courtW E b (registerC co x)) H) := by
  refine Mu.start (own := RX0) rfl (by decide +kernel) (Nat.le_of_ble_eq_true rfl) ?_
  intro p e s m below meth cd args Q hQ X hr hlk hnm hM hPr
  have h_co := hPr
  refine v_aload_n X dX0_register_0 1 rfl 0 rfl ?_
  refine v_getf X hM.C h_co.1 inX0 0 rfl rfl 1 (by decide) kf_X0_15 (fun _ h => h) rfl dX0_register_1 4 rfl ?_
  show V p l e (rmL 2 0 0) s m args below meth cd Q 3 s.heap [] 0 0 4 [(0, .ref b), (1, .int (zI x))] [.int (zI (co 0 1))]
  refine v_istore_n X dX0_register_4 5 rfl rfl (by decide) (L' := [(2, .int (zI (co 0 1))), (0, .ref b), (1, .int (zI x))]) rfl ?_
  refine v_aload_n X dX0_register_5 6 rfl 1 rfl ?_
  refine v_getf X hM.C h_co.1 inX0 0 rfl rfl 14 (by decide) kf_X0_60 (fun _ h => h) rfl dX0_register_6 9 rfl ?_
  refine v_iload_n X dX0_register_9 10 rfl 0 rfl ?_
  refine v_iload_n X dX0_register_10 11 rfl 2 rfl ?_
  have hb_1 := hO.bw
  refine v_muV X hM (h_co.1) (c_X6_put l E (b + 21) 8 (co 11) (co 0 1) x (by omega) (by omega) (by omega)) kvX6_put kiX6_put kl_X0_173 (q0 := 21) rfl rfl (As := [.int (zI (co 0 1)), .int (zI x)]) rfl rfl rfl dX0_register_11 14 rfl (k' := 0) (n' := 0) rfl rfl (fsI (fun q q1 q2 => (Or.inl (fsH (by omega) (by omega))))) (h_co.sub 21 2 rfl (wc := rowW E (b + 21) 8 (co 11)) rfl) (fun rv H2 lo2 hM hF hpo => ?_)
  obtain ⟨rfl, hw_0⟩ := hpo
  have h_co := h_co.join 21 2 rfl hw_0 hF rfl (Nat.le_of_ble_eq_true rfl) (ws' := courtW E b (updC co 11 (updZ (co 11) (co 0 1) x))) rfl
  show V p l e (rmL 2 0 0) s m args below meth cd Q 3 H2 lo2 0 0 14 [(2, .int (zI (co 0 1))), (0, .ref b), (1, .int (zI x))] []
  refine v_aload_n X dX0_register_14 15 rfl 1 rfl ?_
  refine v_getf X hM.C h_co.1 inX0 0 rfl rfl 16 (by decide) kf_X0_69 (fun _ h => h) rfl dX0_register_15 18 rfl ?_
  refine v_iload_n X dX0_register_18 19 rfl 0 rfl ?_
  refine v_muV X hM (h_co.1) (c_X3_found l E (b + 25) (co 13) (co 0 1) (by omega) (by omega)) kvX3_found kiX3_found kl_X0_177 (q0 := 25) rfl rfl (As := [.int (zI (co 0 1))]) rfl rfl rfl dX0_register_19 22 rfl (k' := 0) (n' := 0) rfl rfl (fsI (fun q q1 q2 => (Or.inl (fsH (by omega) (by omega))))) (h_co.sub 25 3 rfl (wc := groupsW E (b + 25) (co 13)) rfl) (fun rv H3 lo3 hM hF hpo => ?_)
  obtain ⟨rfl, hw_0⟩ := hpo
  have h_co := h_co.join 25 3 rfl hw_0 hF rfl (Nat.le_of_ble_eq_true rfl) (ws' := courtW E b (updC (updC co 11 (updZ (co 11) (co 0 1) x)) 13 (updZ (co 13) (co 0 1) (co 0 1)))) rfl
  show V p l e (rmL 2 0 0) s m args below meth cd Q 3 H3 lo3 0 0 22 [(2, .int (zI (co 0 1))), (0, .ref b), (1, .int (zI x))] []
  refine v_aload_n X dX0_register_22 23 rfl 1 rfl ?_
  refine v_iload_n X dX0_register_23 24 rfl 0 rfl ?_
  refine v_iconst X dX0_register_24 25 rfl ?_
  refine v_iadd X dX0_register_25 26 rfl ?_
  refine v_putf X hM h_co ftX0 0 rfl rfl 1 (by decide) kf_X0_15 (fun _ h => h) rfl rfl rfl (Nat.le_of_ble_eq_true rfl) (Or.inl (fsH (by omega) (by omega))) dX0_register_26 29 rfl (ws' := courtW E b (updC (updC (updC co 0 (updZ (co 0) 1 (co 0 1 + 1))) 11 (updZ (co 11) (co 0 1) x)) 13 (updZ (co 13) (co 0 1) (co 0 1)))) rfl (fun H4 lo4 hzz hM hF h_co => ?_)
  clear hzz
  refine v_iload_n X dX0_register_29 30 rfl 0 rfl ?_
  subst hQ; exact m_iret X hr hlk hM dX0_register_30 rfl ⟨rfl, h_co⟩
def hearC1 (co : Nat → Int → Int) (k : Int) (w : Int) (z : Int) : Nat → Int → Int := updC (updC (updC (updC (updC co 6 (updZ (co 6) k (co 6 k + 1))) 7 (updZ (co 7) (k * 6 + co 6 k) w)) 8 (updZ (co 8) (k * 8 + w) 1)) 9 (updZ (co 9) (k * 8 + w) z)) 13 (updZ (co 13) (rtF (co 13) 8 w) (rtF (co 13) 8 ((updZ (co 7) (k * 6 + co 6 k) w) (k * 6 + 0))))
set_option maxHeartbeats 4000000 in
set_option maxRecDepth 20000 in
theorem c_X0_hear1 (l : Launch) (E : Nat → Nat → Nat) (b : Nat) (co : Nat → Int → Int) (k : Int) (w : Int) (z : Int) (hO : OkC co) (k0 : 0 ≤ k) (k1 : k < 16) (w0 : 0 ≤ w) (w1 : w < 8) (hs : co 6 k < 6) : Mu l yX0_hear cX0_hear 6 (some .int) 3 0 0 E [(b, 28)] [.ref b, .int (zI k), .int (zI w), .int (zI 1), .int (zI z)] (fun H => PR E b (courtW E b co) H) (fun rv H => rv = some (.int (zI (co 6 k + 1))) ∧ PR E b (courtW E b (hearC1 co k w z)) H) := by
  refine Mu.start (own := RX0) rfl (by decide +kernel) (Nat.le_of_ble_eq_true rfl) ?_
  intro p e s m below meth cd args Q hQ X hr hlk hnm hM hPr
  have h_co := hPr
  refine v_aload_n X dX0_hear_0 1 rfl 0 rfl ?_
  refine v_getf X hM.C h_co.1 inX0 0 rfl rfl 9 (by decide) kf_X0_45 (fun _ h => h) rfl dX0_hear_1 4 rfl ?_
  refine v_iload_n X dX0_hear_4 5 rfl 1 rfl ?_
  refine v_rdV X hM.C (PW.part h_co.1 11 2 (wc := rowW E (b + 11) 16 (co 6)) rfl) (c_X6_get l E (b + 11) 16 (co 6) k k0 k1 (by omega)) kvX6_get kiX6_get kl_X0_157 rfl rfl (As := [.int (zI k)]) rfl rfl rfl dX0_hear_5 8 rfl ?_
  show V p l e (rmL 3 0 0) s m args below meth cd Q 6 s.heap [] 0 0 8 [(0, .ref b), (1, .int (zI k)), (2, .int (zI w)), (3, .int (zI 1)), (4, .int (zI z))] [.int (zI (co 6 k))]
  have hb_1 := hO.b6 k
  refine v_istore X dX0_hear_8 10 rfl (by decide) (L' := [(5, .int (zI (co 6 k))), (0, .ref b), (1, .int (zI k)), (2, .int (zI w)), (3, .int (zI 1)), (4, .int (zI z))]) rfl ?_
  refine v_aload_n X dX0_hear_10 11 rfl 1 rfl ?_
  refine v_getf X hM.C h_co.1 inX0 0 rfl rfl 10 (by decide) kf_X0_48 (fun _ h => h) rfl dX0_hear_11 14 rfl ?_
  refine v_iload_n X dX0_hear_14 15 rfl 2 rfl ?_
  refine v_bipush X dX0_hear_15 17 rfl rfl ?_
  refine v_imul X dX0_hear_17 18 rfl ?_
  refine v_iload X dX0_hear_18 20 rfl 0 rfl ?_
  refine v_iadd X dX0_hear_20 21 rfl ?_
  refine v_iload_n X dX0_hear_21 22 rfl 3 rfl ?_
  refine v_muV X hM (h_co.1) (c_X6_put l E (b + 13) 96 (co 7) (k * 6 + co 6 k) w (by omega) (by omega) (by omega)) kvX6_put kiX6_put kl_X0_173 (q0 := 13) rfl rfl (As := [.int (zI (k * 6 + co 6 k)), .int (zI w)]) rfl rfl rfl dX0_hear_22 25 rfl (k' := 0) (n' := 0) rfl rfl (fsI (fun q q1 q2 => (Or.inl (fsH (by omega) (by omega))))) (h_co.sub 13 2 rfl (wc := rowW E (b + 13) 96 (co 7)) rfl) (fun rv H2 lo2 hM hF hpo => ?_)
  obtain ⟨rfl, hw_0⟩ := hpo
  have h_co := h_co.join 13 2 rfl hw_0 hF rfl (Nat.le_of_ble_eq_true rfl) (ws' := courtW E b (updC co 7 (updZ (co 7) (k * 6 + co 6 k) w))) rfl
  show V p l e (rmL 3 0 0) s m args below meth cd Q 6 H2 lo2 0 0 25 [(5, .int (zI (co 6 k))), (0, .ref b), (1, .int (zI k)), (2, .int (zI w)), (3, .int (zI 1)), (4, .int (zI z))] []
  refine v_aload_n X dX0_hear_25 26 rfl 1 rfl ?_
  refine v_getf X hM.C h_co.1 inX0 0 rfl rfl 11 (by decide) kf_X0_51 (fun _ h => h) rfl dX0_hear_26 29 rfl ?_
  refine v_iload_n X dX0_hear_29 30 rfl 2 rfl ?_
  refine v_iload_n X dX0_hear_30 31 rfl 3 rfl ?_
  refine v_rdS X hM.C (ws0 E H2) (c_X0_cellOf l E k w) kvX0_cellOf ksX0_cellOf kl_X0_180 (As := [.int (zI k), .int (zI w)]) rfl rfl rfl dX0_hear_31 34 rfl ?_
  show V p l e (rmL 3 0 0) s m args below meth cd Q 6 H2 lo2 0 0 34 [(5, .int (zI (co 6 k))), (0, .ref b), (1, .int (zI k)), (2, .int (zI w)), (3, .int (zI 1)), (4, .int (zI z))] [.int (zI (k * 8 + w)), .ref (b + 15)]
  refine v_iload_n X dX0_hear_34 35 rfl 4 rfl ?_
  refine v_if_eq X (by omega) dX0_hear_35 38 42 rfl (by decide) (fun c_3 => ?_) (fun c_3 => ?_)
  · skip
    exfalso; omega
  · skip
    refine v_iconst X dX0_hear_38 39 rfl ?_
    refine v_goto X dX0_hear_39 43 (by decide) ?_
    refine v_muV X hM (h_co.1) (c_X6_put l E (b + 15) 128 (co 8) (k * 8 + w) 1 (by omega) (by omega) (by omega)) kvX6_put kiX6_put kl_X0_173 (q0 := 15) rfl rfl (As := [.int (zI (k * 8 + w)), .int (zI 1)]) rfl rfl rfl dX0_hear_43 46 rfl (k' := 0) (n' := 0) rfl rfl (fsI (fun q q1 q2 => (Or.inl (fsH (by omega) (by omega))))) (h_co.sub 15 2 rfl (wc := rowW E (b + 15) 128 (co 8)) rfl) (fun rv H4 lo4 hM hF hpo => ?_)
    obtain ⟨rfl, hw_0⟩ := hpo
    have h_co := h_co.join 15 2 rfl hw_0 hF rfl (Nat.le_of_ble_eq_true rfl) (ws' := courtW E b (updC (updC co 7 (updZ (co 7) (k * 6 + co 6 k) w)) 8 (updZ (co 8) (k * 8 + w) 1))) rfl
    show V p l e (rmL 3 0 0) s m args below meth cd Q 6 H4 lo4 0 0 46 [(5, .int (zI (co 6 k))), (0, .ref b), (1, .int (zI k)), (2, .int (zI w)), (3, .int (zI 1)), (4, .int (zI z))] []
    refine v_aload_n X dX0_hear_46 47 rfl 1 rfl ?_
    refine v_getf X hM.C h_co.1 inX0 0 rfl rfl 12 (by decide) kf_X0_54 (fun _ h => h) rfl dX0_hear_47 50 rfl ?_
    refine v_iload_n X dX0_hear_50 51 rfl 2 rfl ?_
    refine v_iload_n X dX0_hear_51 52 rfl 3 rfl ?_
    refine v_rdS X hM.C (ws0 E H4) (c_X0_cellOf l E k w) kvX0_cellOf ksX0_cellOf kl_X0_180 (As := [.int (zI k), .int (zI w)]) rfl rfl rfl dX0_hear_52 55 rfl ?_
    show V p l e (rmL 3 0 0) s m args below meth cd Q 6 H4 lo4 0 0 55 [(5, .int (zI (co 6 k))), (0, .ref b), (1, .int (zI k)), (2, .int (zI w)), (3, .int (zI 1)), (4, .int (zI z))] [.int (zI (k * 8 + w)), .ref (b + 17)]
    refine v_iload X dX0_hear_55 57 rfl 5 rfl ?_
    refine v_muV X hM (h_co.1) (c_X6_put l E (b + 17) 128 (co 9) (k * 8 + w) z (by omega) (by omega) (by omega)) kvX6_put kiX6_put kl_X0_173 (q0 := 17) rfl rfl (As := [.int (zI (k * 8 + w)), .int (zI z)]) rfl rfl rfl dX0_hear_57 60 rfl (k' := 0) (n' := 0) rfl rfl (fsI (fun q q1 q2 => (Or.inl (fsH (by omega) (by omega))))) (h_co.sub 17 2 rfl (wc := rowW E (b + 17) 128 (co 9)) rfl) (fun rv H5 lo5 hM hF hpo => ?_)
    obtain ⟨rfl, hw_0⟩ := hpo
    have h_co := h_co.join 17 2 rfl hw_0 hF rfl (Nat.le_of_ble_eq_true rfl) (ws' := courtW E b (updC (updC (updC co 7 (updZ (co 7) (k * 6 + co 6 k) w)) 8 (updZ (co 8) (k * 8 + w) 1)) 9 (updZ (co 9) (k * 8 + w) z))) rfl
    show V p l e (rmL 3 0 0) s m args below meth cd Q 6 H5 lo5 0 0 60 [(5, .int (zI (co 6 k))), (0, .ref b), (1, .int (zI k)), (2, .int (zI w)), (3, .int (zI 1)), (4, .int (zI z))] []
    refine v_aload_n X dX0_hear_60 61 rfl 1 rfl ?_
    refine v_getf X hM.C h_co.1 inX0 0 rfl rfl 9 (by decide) kf_X0_45 (fun _ h => h) rfl dX0_hear_61 64 rfl ?_
    refine v_iload_n X dX0_hear_64 65 rfl 2 rfl ?_
    refine v_iload X dX0_hear_65 67 rfl 0 rfl ?_
    refine v_iconst X dX0_hear_67 68 rfl ?_
    refine v_iadd X dX0_hear_68 69 rfl ?_
    refine v_muV X hM (h_co.1) (c_X6_put l E (b + 11) 16 (co 6) k (co 6 k + 1) k0 k1 (by omega)) kvX6_put kiX6_put kl_X0_173 (q0 := 11) rfl rfl (As := [.int (zI k), .int (zI (co 6 k + 1))]) rfl rfl rfl dX0_hear_69 72 rfl (k' := 0) (n' := 0) rfl rfl (fsI (fun q q1 q2 => (Or.inl (fsH (by omega) (by omega))))) (h_co.sub 11 2 rfl (wc := rowW E (b + 11) 16 (co 6)) rfl) (fun rv H6 lo6 hM hF hpo => ?_)
    obtain ⟨rfl, hw_0⟩ := hpo
    have h_co := h_co.join 11 2 rfl hw_0 hF rfl (Nat.le_of_ble_eq_true rfl) (ws' := courtW E b (updC (updC (updC (updC co 6 (updZ (co 6) k (co 6 k + 1))) 7 (updZ (co 7) (k * 6 + co 6 k) w)) 8 (updZ (co 8) (k * 8 + w) 1)) 9 (updZ (co 9) (k * 8 + w) z))) rfl
    show V p l e (rmL 3 0 0) s m args below meth cd Q 6 H6 lo6 0 0 72 [(5, .int (zI (co 6 k))), (0, .ref b), (1, .int (zI k)), (2, .int (zI w)), (3, .int (zI 1)), (4, .int (zI z))] []
    refine v_aload_n X dX0_hear_72 73 rfl 1 rfl ?_
    refine v_getf X hM.C h_co.1 inX0 0 rfl rfl 16 (by decide) kf_X0_69 (fun _ h => h) rfl dX0_hear_73 76 rfl ?_
    refine v_aload_n X dX0_hear_76 77 rfl 1 rfl ?_
    refine v_iload_n X dX0_hear_77 78 rfl 2 rfl ?_
    refine v_iconst X dX0_hear_78 79 rfl ?_
    refine v_rdV X hM.C h_co.1 (c_X0_witnessHeardAt l E b (updC (updC (updC (updC co 6 (updZ (co 6) k (co 6 k + 1))) 7 (updZ (co 7) (k * 6 + co 6 k) w)) 8 (updZ (co 8) (k * 8 + w) 1)) 9 (updZ (co 9) (k * 8 + w) z)) k 0 k0 k1 (by omega) (by omega)) kvX0_witnessHeardAt kiX0_witnessHeardAt kl_X0_183 rfl rfl (As := [.int (zI k), .int (zI 0)]) rfl rfl rfl dX0_hear_79 82 rfl ?_
    show V p l e (rmL 3 0 0) s m args below meth cd Q 6 H6 lo6 0 0 82 [(5, .int (zI (co 6 k))), (0, .ref b), (1, .int (zI k)), (2, .int (zI w)), (3, .int (zI 1)), (4, .int (zI z))] [.int (zI ((updZ (co 7) (k * 6 + co 6 k) w) (k * 6 + 0))), .ref (b + 25)]
    refine v_iload_n X dX0_hear_82 83 rfl 3 rfl ?_
    have hwh := updZ_b (i := k * 6 + co 6 k) (v := w) hO.b7 ⟨w0, by omega⟩ (k * 6 + 0)
    refine v_muV X hM (h_co.1) (c_X3_unite l E (b + 25) (co 13) ((updZ (co 7) (k * 6 + co 6 k) w) (k * 6 + 0)) w hO.b13 (by omega) (by omega) w0 (by omega)) kvX3_unite kiX3_unite kl_X0_186 (q0 := 25) rfl rfl (As := [.int (zI ((updZ (co 7) (k * 6 + co 6 k) w) (k * 6 + 0))), .int (zI w)]) rfl rfl rfl dX0_hear_83 86 rfl (k' := 0) (n' := 0) rfl rfl (fsI (fun q q1 q2 => (Or.inl (fsH (by omega) (by omega))))) (h_co.sub 25 3 rfl (wc := groupsW E (b + 25) (co 13)) rfl) (fun rv H7 lo7 hM hF hpo => ?_)
    obtain ⟨rfl, hw_0⟩ := hpo
    have h_co := h_co.join 25 3 rfl hw_0 hF rfl (Nat.le_of_ble_eq_true rfl) (ws' := courtW E b (updC (updC (updC (updC (updC co 6 (updZ (co 6) k (co 6 k + 1))) 7 (updZ (co 7) (k * 6 + co 6 k) w)) 8 (updZ (co 8) (k * 8 + w) 1)) 9 (updZ (co 9) (k * 8 + w) z)) 13 (updZ (co 13) (rtF (co 13) 8 w) (rtF (co 13) 8 ((updZ (co 7) (k * 6 + co 6 k) w) (k * 6 + 0)))))) rfl
    show V p l e (rmL 3 0 0) s m args below meth cd Q 6 H7 lo7 0 0 86 [(5, .int (zI (co 6 k))), (0, .ref b), (1, .int (zI k)), (2, .int (zI w)), (3, .int (zI 1)), (4, .int (zI z))] []
    refine v_iload X dX0_hear_86 88 rfl 0 rfl ?_
    refine v_iconst X dX0_hear_88 89 rfl ?_
    refine v_iadd X dX0_hear_89 90 rfl ?_
    subst hQ; exact m_iret X hr hlk hM dX0_hear_90 rfl ⟨rfl, h_co⟩
def askC1 (co : Nat → Int → Int) (k : Int) (w : Int) : Nat → Int → Int := updC (updC (updC co 0 (updZ (co 0) 3 (co 0 3 + 1))) 10 (updZ (co 10) (k * 8 + w) (co 10 (k * 8 + w) + 1))) 11 (updZ (co 11) w (min (co 11 w + 1) 9))
set_option maxHeartbeats 4000000 in
set_option maxRecDepth 20000 in
theorem c_X0_ask1 (l : Launch) (E : Nat → Nat → Nat) (b : Nat) (co : Nat → Int → Int) (k : Int) (w : Int) (hO : OkC co) (k0 : 0 ≤ k) (k1 : k < 16) (w0 : 0 ≤ w) (w1 : w < 8) : Mu l yX0_ask cX0_ask 6 (some .int) 2 0 0 E [(b, 28)] [.ref b, .int (zI k), .int (zI w), .int (zI 1)] (fun H => PR E b (courtW E b co) H) (fun rv H => rv = some (.int (zI (min (co 11 w + 1) 9))) ∧ PR E b (courtW E b (askC1 co k w)) H) := by
  refine Mu.start (own := RX0) rfl (by decide +kernel) (Nat.le_of_ble_eq_true rfl) ?_
  intro p e s m below meth cd args Q hQ X hr hlk hnm hM hPr
  have h_co := hPr
  refine v_aload_n X dX0_ask_0 1 rfl 0 rfl ?_
  refine v_getf X hM.C h_co.1 inX0 0 rfl rfl 14 (by decide) kf_X0_60 (fun _ h => h) rfl dX0_ask_1 4 rfl ?_
  refine v_iload_n X dX0_ask_4 5 rfl 2 rfl ?_
  refine v_rdV X hM.C (PW.part h_co.1 21 2 (wc := rowW E (b + 21) 8 (co 11)) rfl) (c_X6_get l E (b + 21) 8 (co 11) w w0 w1 (by omega)) kvX6_get kiX6_get kl_X0_157 rfl rfl (As := [.int (zI w)]) rfl rfl rfl dX0_ask_5 8 rfl ?_
  show V p l e (rmL 2 0 0) s m args below meth cd Q 6 s.heap [] 0 0 8 [(0, .ref b), (1, .int (zI k)), (2, .int (zI w)), (3, .int (zI 1))] [.int (zI (co 11 w))]
  have hb_1 := hO.b11 w
  refine v_istore X dX0_ask_8 10 rfl (by decide) (L' := [(4, .int (zI (co 11 w))), (0, .ref b), (1, .int (zI k)), (2, .int (zI w)), (3, .int (zI 1))]) rfl ?_
  refine v_iload_n X dX0_ask_10 11 rfl 4 rfl ?_
  refine v_if_eq X (by omega) dX0_ask_11 14 26 rfl (by decide) (fun c_2 => ?_) (fun c_2 => ?_)
  · skip
    exfalso; omega
  · skip
    refine v_iload X dX0_ask_14 16 rfl 0 rfl ?_
    refine v_iconst X dX0_ask_16 17 rfl ?_
    refine v_iadd X dX0_ask_17 18 rfl ?_
    refine v_bipush X dX0_ask_18 20 rfl rfl ?_
    refine v_mmin X (by omega) (by omega) kl_X0_189 dX0_ask_20 23 rfl rfl ?_
    refine v_goto X dX0_ask_23 34 (by decide) ?_
    refine v_istore X dX0_ask_34 36 rfl (by decide) (L' := [(5, .int (zI (min (co 11 w + 1) 9))), (4, .int (zI (co 11 w))), (0, .ref b), (1, .int (zI k)), (2, .int (zI w)), (3, .int (zI 1))]) rfl ?_
    refine v_aload_n X dX0_ask_36 37 rfl 2 rfl ?_
    refine v_getf X hM.C h_co.1 inX0 0 rfl rfl 14 (by decide) kf_X0_60 (fun _ h => h) rfl dX0_ask_37 40 rfl ?_
    refine v_iload_n X dX0_ask_40 41 rfl 4 rfl ?_
    refine v_iload X dX0_ask_41 43 rfl 0 rfl ?_
    refine v_muV X hM (h_co.1) (c_X6_put l E (b + 21) 8 (co 11) w (min (co 11 w + 1) 9) w0 w1 (by omega)) kvX6_put kiX6_put kl_X0_173 (q0 := 21) rfl rfl (As := [.int (zI w), .int (zI (min (co 11 w + 1) 9))]) rfl rfl rfl dX0_ask_43 46 rfl (k' := 0) (n' := 0) rfl rfl (fsI (fun q q1 q2 => (Or.inl (fsH (by omega) (by omega))))) (h_co.sub 21 2 rfl (wc := rowW E (b + 21) 8 (co 11)) rfl) (fun rv H3 lo3 hM hF hpo => ?_)
    obtain ⟨rfl, hw_0⟩ := hpo
    have h_co := h_co.join 21 2 rfl hw_0 hF rfl (Nat.le_of_ble_eq_true rfl) (ws' := courtW E b (updC co 11 (updZ (co 11) w (min (co 11 w + 1) 9)))) rfl
    show V p l e (rmL 2 0 0) s m args below meth cd Q 6 H3 lo3 0 0 46 [(5, .int (zI (min (co 11 w + 1) 9))), (4, .int (zI (co 11 w))), (0, .ref b), (1, .int (zI k)), (2, .int (zI w)), (3, .int (zI 1))] []
    refine v_aload_n X dX0_ask_46 47 rfl 2 rfl ?_
    refine v_getf X hM.C h_co.1 inX0 0 rfl rfl 13 (by decide) kf_X0_57 (fun _ h => h) rfl dX0_ask_47 50 rfl ?_
    refine v_iload_n X dX0_ask_50 51 rfl 3 rfl ?_
    refine v_iload_n X dX0_ask_51 52 rfl 4 rfl ?_
    refine v_rdS X hM.C (ws0 E H3) (c_X0_cellOf l E k w) kvX0_cellOf ksX0_cellOf kl_X0_180 (As := [.int (zI k), .int (zI w)]) rfl rfl rfl dX0_ask_52 55 rfl ?_
    show V p l e (rmL 2 0 0) s m args below meth cd Q 6 H3 lo3 0 0 55 [(5, .int (zI (min (co 11 w + 1) 9))), (4, .int (zI (co 11 w))), (0, .ref b), (1, .int (zI k)), (2, .int (zI w)), (3, .int (zI 1))] [.int (zI (k * 8 + w)), .ref (b + 19)]
    refine v_iconst X dX0_ask_55 56 rfl ?_
    refine v_muV X hM (h_co.1) (c_X6_add l E (b + 19) 128 (co 10) (k * 8 + w) 1 (by omega) (by omega) (by omega)) kvX6_add kiX6_add kl_X0_197 (q0 := 19) rfl rfl (As := [.int (zI (k * 8 + w)), .int (zI 1)]) rfl rfl rfl dX0_ask_56 59 rfl (k' := 0) (n' := 0) rfl rfl (fsI (fun q q1 q2 => (Or.inl (fsH (by omega) (by omega))))) (h_co.sub 19 2 rfl (wc := rowW E (b + 19) 128 (co 10)) rfl) (fun rv H4 lo4 hM hF hpo => ?_)
    obtain ⟨rfl, hw_0⟩ := hpo
    have h_co := h_co.join 19 2 rfl hw_0 hF rfl (Nat.le_of_ble_eq_true rfl) (ws' := courtW E b (updC (updC co 10 (updZ (co 10) (k * 8 + w) (co 10 (k * 8 + w) + 1))) 11 (updZ (co 11) w (min (co 11 w + 1) 9)))) rfl
    show V p l e (rmL 2 0 0) s m args below meth cd Q 6 H4 lo4 0 0 59 [(5, .int (zI (min (co 11 w + 1) 9))), (4, .int (zI (co 11 w))), (0, .ref b), (1, .int (zI k)), (2, .int (zI w)), (3, .int (zI 1))] []
    refine v_aload_n X dX0_ask_59 60 rfl 2 rfl ?_
    refine v_dup X dX0_ask_60 61 rfl rfl ?_
    refine v_getf X hM.C h_co.1 inX0 0 rfl rfl 3 (by decide) kf_X0_21 (fun _ h => h) rfl dX0_ask_61 64 rfl ?_
    show V p l e (rmL 2 0 0) s m args below meth cd Q 6 H4 lo4 0 0 64 [(5, .int (zI (min (co 11 w + 1) 9))), (4, .int (zI (co 11 w))), (0, .ref b), (1, .int (zI k)), (2, .int (zI w)), (3, .int (zI 1))] [.int (zI (co 0 3)), .ref b]
    refine v_iconst X dX0_ask_64 65 rfl ?_
    refine v_iadd X dX0_ask_65 66 rfl ?_
    refine v_putf X hM h_co ftX0 0 rfl rfl 3 (by decide) kf_X0_21 (fun _ h => h) rfl rfl rfl (Nat.le_of_ble_eq_true rfl) (Or.inl (fsH (by omega) (by omega))) dX0_ask_66 69 rfl (ws' := courtW E b (updC (updC (updC co 0 (updZ (co 0) 3 (co 0 3 + 1))) 10 (updZ (co 10) (k * 8 + w) (co 10 (k * 8 + w) + 1))) 11 (updZ (co 11) w (min (co 11 w + 1) 9)))) rfl (fun H5 lo5 hzz hM hF h_co => ?_)
    clear hzz
    refine v_iload X dX0_ask_69 71 rfl 0 rfl ?_
    subst hQ; exact m_iret X hr hlk hM dX0_ask_71 rfl ⟨rfl, h_co⟩
def hearC0 (co : Nat → Int → Int) (k : Int) (w : Int) (z : Int) : Nat → Int → Int := updC (updC (updC (updC (updC co 6 (updZ (co 6) k (co 6 k + 1))) 7 (updZ (co 7) (k * 6 + co 6 k) w)) 8 (updZ (co 8) (k * 8 + w) (-1))) 9 (updZ (co 9) (k * 8 + w) z)) 13 (updZ (co 13) (rtF (co 13) 8 w) (rtF (co 13) 8 ((updZ (co 7) (k * 6 + co 6 k) w) (k * 6 + 0))))
set_option maxHeartbeats 4000000 in
set_option maxRecDepth 20000 in
theorem c_X0_hear0 (l : Launch) (E : Nat → Nat → Nat) (b : Nat) (co : Nat → Int → Int) (k : Int) (w : Int) (z : Int) (hO : OkC co) (k0 : 0 ≤ k) (k1 : k < 16) (w0 : 0 ≤ w) (w1 : w < 8) (hs : co 6 k < 6) : Mu l yX0_hear cX0_hear 6 (some .int) 3 0 0 E [(b, 28)] [.ref b, .int (zI k), .int (zI w), .int (zI 0), .int (zI z)] (fun H => PR E b (courtW E b co) H) (fun rv H => rv = some (.int (zI (co 6 k + 1))) ∧ PR E b (courtW E b (hearC0 co k w z)) H) := by
  refine Mu.start (own := RX0) rfl (by decide +kernel) (Nat.le_of_ble_eq_true rfl) ?_
  intro p e s m below meth cd args Q hQ X hr hlk hnm hM hPr
  have h_co := hPr
  refine v_aload_n X dX0_hear_0 1 rfl 0 rfl ?_
  refine v_getf X hM.C h_co.1 inX0 0 rfl rfl 9 (by decide) kf_X0_45 (fun _ h => h) rfl dX0_hear_1 4 rfl ?_
  refine v_iload_n X dX0_hear_4 5 rfl 1 rfl ?_
  refine v_rdV X hM.C (PW.part h_co.1 11 2 (wc := rowW E (b + 11) 16 (co 6)) rfl) (c_X6_get l E (b + 11) 16 (co 6) k k0 k1 (by omega)) kvX6_get kiX6_get kl_X0_157 rfl rfl (As := [.int (zI k)]) rfl rfl rfl dX0_hear_5 8 rfl ?_
  show V p l e (rmL 3 0 0) s m args below meth cd Q 6 s.heap [] 0 0 8 [(0, .ref b), (1, .int (zI k)), (2, .int (zI w)), (3, .int (zI 0)), (4, .int (zI z))] [.int (zI (co 6 k))]
  have hb_1 := hO.b6 k
  refine v_istore X dX0_hear_8 10 rfl (by decide) (L' := [(5, .int (zI (co 6 k))), (0, .ref b), (1, .int (zI k)), (2, .int (zI w)), (3, .int (zI 0)), (4, .int (zI z))]) rfl ?_
  refine v_aload_n X dX0_hear_10 11 rfl 1 rfl ?_
  refine v_getf X hM.C h_co.1 inX0 0 rfl rfl 10 (by decide) kf_X0_48 (fun _ h => h) rfl dX0_hear_11 14 rfl ?_
  refine v_iload_n X dX0_hear_14 15 rfl 2 rfl ?_
  refine v_bipush X dX0_hear_15 17 rfl rfl ?_
  refine v_imul X dX0_hear_17 18 rfl ?_
  refine v_iload X dX0_hear_18 20 rfl 0 rfl ?_
  refine v_iadd X dX0_hear_20 21 rfl ?_
  refine v_iload_n X dX0_hear_21 22 rfl 3 rfl ?_
  refine v_muV X hM (h_co.1) (c_X6_put l E (b + 13) 96 (co 7) (k * 6 + co 6 k) w (by omega) (by omega) (by omega)) kvX6_put kiX6_put kl_X0_173 (q0 := 13) rfl rfl (As := [.int (zI (k * 6 + co 6 k)), .int (zI w)]) rfl rfl rfl dX0_hear_22 25 rfl (k' := 0) (n' := 0) rfl rfl (fsI (fun q q1 q2 => (Or.inl (fsH (by omega) (by omega))))) (h_co.sub 13 2 rfl (wc := rowW E (b + 13) 96 (co 7)) rfl) (fun rv H2 lo2 hM hF hpo => ?_)
  obtain ⟨rfl, hw_0⟩ := hpo
  have h_co := h_co.join 13 2 rfl hw_0 hF rfl (Nat.le_of_ble_eq_true rfl) (ws' := courtW E b (updC co 7 (updZ (co 7) (k * 6 + co 6 k) w))) rfl
  show V p l e (rmL 3 0 0) s m args below meth cd Q 6 H2 lo2 0 0 25 [(5, .int (zI (co 6 k))), (0, .ref b), (1, .int (zI k)), (2, .int (zI w)), (3, .int (zI 0)), (4, .int (zI z))] []
  refine v_aload_n X dX0_hear_25 26 rfl 1 rfl ?_
  refine v_getf X hM.C h_co.1 inX0 0 rfl rfl 11 (by decide) kf_X0_51 (fun _ h => h) rfl dX0_hear_26 29 rfl ?_
  refine v_iload_n X dX0_hear_29 30 rfl 2 rfl ?_
  refine v_iload_n X dX0_hear_30 31 rfl 3 rfl ?_
  refine v_rdS X hM.C (ws0 E H2) (c_X0_cellOf l E k w) kvX0_cellOf ksX0_cellOf kl_X0_180 (As := [.int (zI k), .int (zI w)]) rfl rfl rfl dX0_hear_31 34 rfl ?_
  show V p l e (rmL 3 0 0) s m args below meth cd Q 6 H2 lo2 0 0 34 [(5, .int (zI (co 6 k))), (0, .ref b), (1, .int (zI k)), (2, .int (zI w)), (3, .int (zI 0)), (4, .int (zI z))] [.int (zI (k * 8 + w)), .ref (b + 15)]
  refine v_iload_n X dX0_hear_34 35 rfl 4 rfl ?_
  refine v_if_eq X (by omega) dX0_hear_35 38 42 rfl (by decide) (fun c_3 => ?_) (fun c_3 => ?_)
  · skip
    refine v_iconst X dX0_hear_42 43 rfl ?_
    refine v_muV X hM (h_co.1) (c_X6_put l E (b + 15) 128 (co 8) (k * 8 + w) (-1) (by omega) (by omega) (by omega)) kvX6_put kiX6_put kl_X0_173 (q0 := 15) rfl rfl (As := [.int (zI (k * 8 + w)), .int (zI (-1))]) rfl rfl rfl dX0_hear_43 46 rfl (k' := 0) (n' := 0) rfl rfl (fsI (fun q q1 q2 => (Or.inl (fsH (by omega) (by omega))))) (h_co.sub 15 2 rfl (wc := rowW E (b + 15) 128 (co 8)) rfl) (fun rv H4 lo4 hM hF hpo => ?_)
    obtain ⟨rfl, hw_0⟩ := hpo
    have h_co := h_co.join 15 2 rfl hw_0 hF rfl (Nat.le_of_ble_eq_true rfl) (ws' := courtW E b (updC (updC co 7 (updZ (co 7) (k * 6 + co 6 k) w)) 8 (updZ (co 8) (k * 8 + w) (-1)))) rfl
    show V p l e (rmL 3 0 0) s m args below meth cd Q 6 H4 lo4 0 0 46 [(5, .int (zI (co 6 k))), (0, .ref b), (1, .int (zI k)), (2, .int (zI w)), (3, .int (zI 0)), (4, .int (zI z))] []
    refine v_aload_n X dX0_hear_46 47 rfl 1 rfl ?_
    refine v_getf X hM.C h_co.1 inX0 0 rfl rfl 12 (by decide) kf_X0_54 (fun _ h => h) rfl dX0_hear_47 50 rfl ?_
    refine v_iload_n X dX0_hear_50 51 rfl 2 rfl ?_
    refine v_iload_n X dX0_hear_51 52 rfl 3 rfl ?_
    refine v_rdS X hM.C (ws0 E H4) (c_X0_cellOf l E k w) kvX0_cellOf ksX0_cellOf kl_X0_180 (As := [.int (zI k), .int (zI w)]) rfl rfl rfl dX0_hear_52 55 rfl ?_
    show V p l e (rmL 3 0 0) s m args below meth cd Q 6 H4 lo4 0 0 55 [(5, .int (zI (co 6 k))), (0, .ref b), (1, .int (zI k)), (2, .int (zI w)), (3, .int (zI 0)), (4, .int (zI z))] [.int (zI (k * 8 + w)), .ref (b + 17)]
    refine v_iload X dX0_hear_55 57 rfl 5 rfl ?_
    refine v_muV X hM (h_co.1) (c_X6_put l E (b + 17) 128 (co 9) (k * 8 + w) z (by omega) (by omega) (by omega)) kvX6_put kiX6_put kl_X0_173 (q0 := 17) rfl rfl (As := [.int (zI (k * 8 + w)), .int (zI z)]) rfl rfl rfl dX0_hear_57 60 rfl (k' := 0) (n' := 0) rfl rfl (fsI (fun q q1 q2 => (Or.inl (fsH (by omega) (by omega))))) (h_co.sub 17 2 rfl (wc := rowW E (b + 17) 128 (co 9)) rfl) (fun rv H5 lo5 hM hF hpo => ?_)
    obtain ⟨rfl, hw_0⟩ := hpo
    have h_co := h_co.join 17 2 rfl hw_0 hF rfl (Nat.le_of_ble_eq_true rfl) (ws' := courtW E b (updC (updC (updC co 7 (updZ (co 7) (k * 6 + co 6 k) w)) 8 (updZ (co 8) (k * 8 + w) (-1))) 9 (updZ (co 9) (k * 8 + w) z))) rfl
    show V p l e (rmL 3 0 0) s m args below meth cd Q 6 H5 lo5 0 0 60 [(5, .int (zI (co 6 k))), (0, .ref b), (1, .int (zI k)), (2, .int (zI w)), (3, .int (zI 0)), (4, .int (zI z))] []
    refine v_aload_n X dX0_hear_60 61 rfl 1 rfl ?_
    refine v_getf X hM.C h_co.1 inX0 0 rfl rfl 9 (by decide) kf_X0_45 (fun _ h => h) rfl dX0_hear_61 64 rfl ?_
    refine v_iload_n X dX0_hear_64 65 rfl 2 rfl ?_
    refine v_iload X dX0_hear_65 67 rfl 0 rfl ?_
    refine v_iconst X dX0_hear_67 68 rfl ?_
    refine v_iadd X dX0_hear_68 69 rfl ?_
    refine v_muV X hM (h_co.1) (c_X6_put l E (b + 11) 16 (co 6) k (co 6 k + 1) k0 k1 (by omega)) kvX6_put kiX6_put kl_X0_173 (q0 := 11) rfl rfl (As := [.int (zI k), .int (zI (co 6 k + 1))]) rfl rfl rfl dX0_hear_69 72 rfl (k' := 0) (n' := 0) rfl rfl (fsI (fun q q1 q2 => (Or.inl (fsH (by omega) (by omega))))) (h_co.sub 11 2 rfl (wc := rowW E (b + 11) 16 (co 6)) rfl) (fun rv H6 lo6 hM hF hpo => ?_)
    obtain ⟨rfl, hw_0⟩ := hpo
    have h_co := h_co.join 11 2 rfl hw_0 hF rfl (Nat.le_of_ble_eq_true rfl) (ws' := courtW E b (updC (updC (updC (updC co 6 (updZ (co 6) k (co 6 k + 1))) 7 (updZ (co 7) (k * 6 + co 6 k) w)) 8 (updZ (co 8) (k * 8 + w) (-1))) 9 (updZ (co 9) (k * 8 + w) z))) rfl
    show V p l e (rmL 3 0 0) s m args below meth cd Q 6 H6 lo6 0 0 72 [(5, .int (zI (co 6 k))), (0, .ref b), (1, .int (zI k)), (2, .int (zI w)), (3, .int (zI 0)), (4, .int (zI z))] []
    refine v_aload_n X dX0_hear_72 73 rfl 1 rfl ?_
    refine v_getf X hM.C h_co.1 inX0 0 rfl rfl 16 (by decide) kf_X0_69 (fun _ h => h) rfl dX0_hear_73 76 rfl ?_
    refine v_aload_n X dX0_hear_76 77 rfl 1 rfl ?_
    refine v_iload_n X dX0_hear_77 78 rfl 2 rfl ?_
    refine v_iconst X dX0_hear_78 79 rfl ?_
    refine v_rdV X hM.C h_co.1 (c_X0_witnessHeardAt l E b (updC (updC (updC (updC co 6 (updZ (co 6) k (co 6 k + 1))) 7 (updZ (co 7) (k * 6 + co 6 k) w)) 8 (updZ (co 8) (k * 8 + w) (-1))) 9 (updZ (co 9) (k * 8 + w) z)) k 0 k0 k1 (by omega) (by omega)) kvX0_witnessHeardAt kiX0_witnessHeardAt kl_X0_183 rfl rfl (As := [.int (zI k), .int (zI 0)]) rfl rfl rfl dX0_hear_79 82 rfl ?_
    show V p l e (rmL 3 0 0) s m args below meth cd Q 6 H6 lo6 0 0 82 [(5, .int (zI (co 6 k))), (0, .ref b), (1, .int (zI k)), (2, .int (zI w)), (3, .int (zI 0)), (4, .int (zI z))] [.int (zI ((updZ (co 7) (k * 6 + co 6 k) w) (k * 6 + 0))), .ref (b + 25)]
    refine v_iload_n X dX0_hear_82 83 rfl 3 rfl ?_
    have hwh := updZ_b (i := k * 6 + co 6 k) (v := w) hO.b7 ⟨w0, by omega⟩ (k * 6 + 0)
    refine v_muV X hM (h_co.1) (c_X3_unite l E (b + 25) (co 13) ((updZ (co 7) (k * 6 + co 6 k) w) (k * 6 + 0)) w hO.b13 (by omega) (by omega) w0 (by omega)) kvX3_unite kiX3_unite kl_X0_186 (q0 := 25) rfl rfl (As := [.int (zI ((updZ (co 7) (k * 6 + co 6 k) w) (k * 6 + 0))), .int (zI w)]) rfl rfl rfl dX0_hear_83 86 rfl (k' := 0) (n' := 0) rfl rfl (fsI (fun q q1 q2 => (Or.inl (fsH (by omega) (by omega))))) (h_co.sub 25 3 rfl (wc := groupsW E (b + 25) (co 13)) rfl) (fun rv H7 lo7 hM hF hpo => ?_)
    obtain ⟨rfl, hw_0⟩ := hpo
    have h_co := h_co.join 25 3 rfl hw_0 hF rfl (Nat.le_of_ble_eq_true rfl) (ws' := courtW E b (updC (updC (updC (updC (updC co 6 (updZ (co 6) k (co 6 k + 1))) 7 (updZ (co 7) (k * 6 + co 6 k) w)) 8 (updZ (co 8) (k * 8 + w) (-1))) 9 (updZ (co 9) (k * 8 + w) z)) 13 (updZ (co 13) (rtF (co 13) 8 w) (rtF (co 13) 8 ((updZ (co 7) (k * 6 + co 6 k) w) (k * 6 + 0)))))) rfl
    show V p l e (rmL 3 0 0) s m args below meth cd Q 6 H7 lo7 0 0 86 [(5, .int (zI (co 6 k))), (0, .ref b), (1, .int (zI k)), (2, .int (zI w)), (3, .int (zI 0)), (4, .int (zI z))] []
    refine v_iload X dX0_hear_86 88 rfl 0 rfl ?_
    refine v_iconst X dX0_hear_88 89 rfl ?_
    refine v_iadd X dX0_hear_89 90 rfl ?_
    subst hQ; exact m_iret X hr hlk hM dX0_hear_90 rfl ⟨rfl, h_co⟩
  · skip
    exfalso; omega
def askC0 (co : Nat → Int → Int) (k : Int) (w : Int) : Nat → Int → Int := updC (updC (updC co 0 (updZ (co 0) 3 (co 0 3 + 1))) 10 (updZ (co 10) (k * 8 + w) (co 10 (k * 8 + w) + 1))) 11 (updZ (co 11) w (max (co 11 w - 2) 0))
set_option maxHeartbeats 4000000 in
set_option maxRecDepth 20000 in
theorem c_X0_ask0 (l : Launch) (E : Nat → Nat → Nat) (b : Nat) (co : Nat → Int → Int) (k : Int) (w : Int) (hO : OkC co) (k0 : 0 ≤ k) (k1 : k < 16) (w0 : 0 ≤ w) (w1 : w < 8) : Mu l yX0_ask cX0_ask 6 (some .int) 2 0 0 E [(b, 28)] [.ref b, .int (zI k), .int (zI w), .int (zI 0)] (fun H => PR E b (courtW E b co) H) (fun rv H => rv = some (.int (zI (max (co 11 w - 2) 0))) ∧ PR E b (courtW E b (askC0 co k w)) H) := by
  refine Mu.start (own := RX0) rfl (by decide +kernel) (Nat.le_of_ble_eq_true rfl) ?_
  intro p e s m below meth cd args Q hQ X hr hlk hnm hM hPr
  have h_co := hPr
  refine v_aload_n X dX0_ask_0 1 rfl 0 rfl ?_
  refine v_getf X hM.C h_co.1 inX0 0 rfl rfl 14 (by decide) kf_X0_60 (fun _ h => h) rfl dX0_ask_1 4 rfl ?_
  refine v_iload_n X dX0_ask_4 5 rfl 2 rfl ?_
  refine v_rdV X hM.C (PW.part h_co.1 21 2 (wc := rowW E (b + 21) 8 (co 11)) rfl) (c_X6_get l E (b + 21) 8 (co 11) w w0 w1 (by omega)) kvX6_get kiX6_get kl_X0_157 rfl rfl (As := [.int (zI w)]) rfl rfl rfl dX0_ask_5 8 rfl ?_
  show V p l e (rmL 2 0 0) s m args below meth cd Q 6 s.heap [] 0 0 8 [(0, .ref b), (1, .int (zI k)), (2, .int (zI w)), (3, .int (zI 0))] [.int (zI (co 11 w))]
  have hb_1 := hO.b11 w
  refine v_istore X dX0_ask_8 10 rfl (by decide) (L' := [(4, .int (zI (co 11 w))), (0, .ref b), (1, .int (zI k)), (2, .int (zI w)), (3, .int (zI 0))]) rfl ?_
  refine v_iload_n X dX0_ask_10 11 rfl 4 rfl ?_
  refine v_if_eq X (by omega) dX0_ask_11 14 26 rfl (by decide) (fun c_2 => ?_) (fun c_2 => ?_)
  · skip
    refine v_iload X dX0_ask_26 28 rfl 0 rfl ?_
    refine v_iconst X dX0_ask_28 29 rfl ?_
    refine v_isub X dX0_ask_29 30 rfl ?_
    refine v_iconst X dX0_ask_30 31 rfl ?_
    refine v_mmax X (by omega) (by omega) kl_X0_194 dX0_ask_31 34 rfl rfl ?_
    refine v_istore X dX0_ask_34 36 rfl (by decide) (L' := [(5, .int (zI (max (co 11 w - 2) 0))), (4, .int (zI (co 11 w))), (0, .ref b), (1, .int (zI k)), (2, .int (zI w)), (3, .int (zI 0))]) rfl ?_
    refine v_aload_n X dX0_ask_36 37 rfl 2 rfl ?_
    refine v_getf X hM.C h_co.1 inX0 0 rfl rfl 14 (by decide) kf_X0_60 (fun _ h => h) rfl dX0_ask_37 40 rfl ?_
    refine v_iload_n X dX0_ask_40 41 rfl 4 rfl ?_
    refine v_iload X dX0_ask_41 43 rfl 0 rfl ?_
    refine v_muV X hM (h_co.1) (c_X6_put l E (b + 21) 8 (co 11) w (max (co 11 w - 2) 0) w0 w1 (by omega)) kvX6_put kiX6_put kl_X0_173 (q0 := 21) rfl rfl (As := [.int (zI w), .int (zI (max (co 11 w - 2) 0))]) rfl rfl rfl dX0_ask_43 46 rfl (k' := 0) (n' := 0) rfl rfl (fsI (fun q q1 q2 => (Or.inl (fsH (by omega) (by omega))))) (h_co.sub 21 2 rfl (wc := rowW E (b + 21) 8 (co 11)) rfl) (fun rv H3 lo3 hM hF hpo => ?_)
    obtain ⟨rfl, hw_0⟩ := hpo
    have h_co := h_co.join 21 2 rfl hw_0 hF rfl (Nat.le_of_ble_eq_true rfl) (ws' := courtW E b (updC co 11 (updZ (co 11) w (max (co 11 w - 2) 0)))) rfl
    show V p l e (rmL 2 0 0) s m args below meth cd Q 6 H3 lo3 0 0 46 [(5, .int (zI (max (co 11 w - 2) 0))), (4, .int (zI (co 11 w))), (0, .ref b), (1, .int (zI k)), (2, .int (zI w)), (3, .int (zI 0))] []
    refine v_aload_n X dX0_ask_46 47 rfl 2 rfl ?_
    refine v_getf X hM.C h_co.1 inX0 0 rfl rfl 13 (by decide) kf_X0_57 (fun _ h => h) rfl dX0_ask_47 50 rfl ?_
    refine v_iload_n X dX0_ask_50 51 rfl 3 rfl ?_
    refine v_iload_n X dX0_ask_51 52 rfl 4 rfl ?_
    refine v_rdS X hM.C (ws0 E H3) (c_X0_cellOf l E k w) kvX0_cellOf ksX0_cellOf kl_X0_180 (As := [.int (zI k), .int (zI w)]) rfl rfl rfl dX0_ask_52 55 rfl ?_
    show V p l e (rmL 2 0 0) s m args below meth cd Q 6 H3 lo3 0 0 55 [(5, .int (zI (max (co 11 w - 2) 0))), (4, .int (zI (co 11 w))), (0, .ref b), (1, .int (zI k)), (2, .int (zI w)), (3, .int (zI 0))] [.int (zI (k * 8 + w)), .ref (b + 19)]
    refine v_iconst X dX0_ask_55 56 rfl ?_
    refine v_muV X hM (h_co.1) (c_X6_add l E (b + 19) 128 (co 10) (k * 8 + w) 1 (by omega) (by omega) (by omega)) kvX6_add kiX6_add kl_X0_197 (q0 := 19) rfl rfl (As := [.int (zI (k * 8 + w)), .int (zI 1)]) rfl rfl rfl dX0_ask_56 59 rfl (k' := 0) (n' := 0) rfl rfl (fsI (fun q q1 q2 => (Or.inl (fsH (by omega) (by omega))))) (h_co.sub 19 2 rfl (wc := rowW E (b + 19) 128 (co 10)) rfl) (fun rv H4 lo4 hM hF hpo => ?_)
    obtain ⟨rfl, hw_0⟩ := hpo
    have h_co := h_co.join 19 2 rfl hw_0 hF rfl (Nat.le_of_ble_eq_true rfl) (ws' := courtW E b (updC (updC co 10 (updZ (co 10) (k * 8 + w) (co 10 (k * 8 + w) + 1))) 11 (updZ (co 11) w (max (co 11 w - 2) 0)))) rfl
    show V p l e (rmL 2 0 0) s m args below meth cd Q 6 H4 lo4 0 0 59 [(5, .int (zI (max (co 11 w - 2) 0))), (4, .int (zI (co 11 w))), (0, .ref b), (1, .int (zI k)), (2, .int (zI w)), (3, .int (zI 0))] []
    refine v_aload_n X dX0_ask_59 60 rfl 2 rfl ?_
    refine v_dup X dX0_ask_60 61 rfl rfl ?_
    refine v_getf X hM.C h_co.1 inX0 0 rfl rfl 3 (by decide) kf_X0_21 (fun _ h => h) rfl dX0_ask_61 64 rfl ?_
    show V p l e (rmL 2 0 0) s m args below meth cd Q 6 H4 lo4 0 0 64 [(5, .int (zI (max (co 11 w - 2) 0))), (4, .int (zI (co 11 w))), (0, .ref b), (1, .int (zI k)), (2, .int (zI w)), (3, .int (zI 0))] [.int (zI (co 0 3)), .ref b]
    refine v_iconst X dX0_ask_64 65 rfl ?_
    refine v_iadd X dX0_ask_65 66 rfl ?_
    refine v_putf X hM h_co ftX0 0 rfl rfl 3 (by decide) kf_X0_21 (fun _ h => h) rfl rfl rfl (Nat.le_of_ble_eq_true rfl) (Or.inl (fsH (by omega) (by omega))) dX0_ask_66 69 rfl (ws' := courtW E b (updC (updC (updC co 0 (updZ (co 0) 3 (co 0 3 + 1))) 10 (updZ (co 10) (k * 8 + w) (co 10 (k * 8 + w) + 1))) 11 (updZ (co 11) w (max (co 11 w - 2) 0)))) rfl (fun H5 lo5 hzz hM hF h_co => ?_)
    clear hzz
    refine v_iload X dX0_ask_69 71 rfl 0 rfl ?_
    subst hQ; exact m_iret X hr hlk hM dX0_ask_71 rfl ⟨rfl, h_co⟩
  · skip
    exfalso; omega
def judgeC11 (co : Nat → Int → Int) (k : Int) : Nat → Int → Int := updC (updC (updC (updC co 0 (updZ (co 0) 2 (co 0 2 + 1))) 3 (updZ (co 3) k 2)) 4 (updZ (co 4) k 1)) 12 (updZ (co 12) (co 1 k) (co 12 (co 1 k) + (co 2 k + 1)))
set_option maxHeartbeats 4000000 in
set_option maxRecDepth 20000 in
theorem c_X0_judge11 (l : Launch) (E : Nat → Nat → Nat) (b : Nat) (co : Nat → Int → Int) (k : Int) (hO : OkC co) (k0 : 0 ≤ k) (k1 : k < 16) (hg : 0 < mgC co k) (hla : 2 ≤ co 5 k) : Mu l yX0_judge cX0_judge 3 (some .int) 3 0 0 E [(b, 28)] [.ref b, .int (zI k)] (fun H => PR E b (courtW E b co) H) (fun rv H => rv = some (.int (zI 1)) ∧ PR E b (courtW E b (judgeC11 co k)) H) := by
  refine Mu.start (own := RX0) rfl (by decide +kernel) (Nat.le_of_ble_eq_true rfl) ?_
  intro p e s m below meth cd args Q hQ X hr hlk hnm hM hPr
  have h_co := hPr
  refine v_aload_n X dX0_judge_0 1 rfl 0 rfl ?_
  refine v_iload_n X dX0_judge_1 2 rfl 1 rfl ?_
  refine v_rdS X hM.C h_co.1 (c_X8_marginByTestimony l E b co k hO k0 k1) kvX8_marginByTestimony ksX8_marginByTestimony kl_X0_200 (As := [.ref b, .int (zI k)]) rfl rfl rfl dX0_judge_2 5 rfl ?_
  show V p l e (rmL 3 0 0) s m args below meth cd Q 3 s.heap [] 0 0 5 [(0, .ref b), (1, .int (zI k))] [.int (zI (mgC co k))]
  have hf_1 := mgC_b hO k
  refine v_if_le X (by omega) dX0_judge_5 8 12 rfl (by decide) (fun c_2 => ?_) (fun c_2 => ?_)
  · skip
    exfalso; omega
  · skip
    refine v_iconst X dX0_judge_8 9 rfl ?_
    refine v_goto X dX0_judge_9 13 (by decide) ?_
    refine v_istore_n X dX0_judge_13 14 rfl rfl (by decide) (L' := [(2, .int (zI 1)), (0, .ref b), (1, .int (zI k))]) rfl ?_
    refine v_iload_n X dX0_judge_14 15 rfl 0 rfl ?_
    refine v_if_eq X (by omega) dX0_judge_15 18 38 rfl (by decide) (fun c_3 => ?_) (fun c_3 => ?_)
    · skip
      exfalso; omega
    · skip
      refine v_aload_n X dX0_judge_18 19 rfl 1 rfl ?_
      refine v_getf X hM.C h_co.1 inX0 0 rfl rfl 15 (by decide) kf_X0_63 (fun _ h => h) rfl dX0_judge_19 22 rfl ?_
      refine v_aload_n X dX0_judge_22 23 rfl 1 rfl ?_
      refine v_getf X hM.C h_co.1 inX0 0 rfl rfl 4 (by decide) kf_X0_29 (fun _ h => h) rfl dX0_judge_23 26 rfl ?_
      refine v_iload_n X dX0_judge_26 27 rfl 2 rfl ?_
      refine v_rdV X hM.C (PW.part h_co.1 1 2 (wc := rowW E (b + 1) 16 (co 1)) rfl) (c_X6_get l E (b + 1) 16 (co 1) k k0 k1 (by omega)) kvX6_get kiX6_get kl_X0_157 rfl rfl (As := [.int (zI k)]) rfl rfl rfl dX0_judge_27 30 rfl ?_
      show V p l e (rmL 3 0 0) s m args below meth cd Q 3 s.heap [] 0 0 30 [(2, .int (zI 1)), (0, .ref b), (1, .int (zI k))] [.int (zI (co 1 k)), .ref (b + 23)]
      have hb_4 := hO.b1 k
      refine v_aload_n X dX0_judge_30 31 rfl 1 rfl ?_
      refine v_iload_n X dX0_judge_31 32 rfl 2 rfl ?_
      refine v_rdV X hM.C h_co.1 (c_X0_severityIn l E b co k k0 k1) kvX0_severityIn kiX0_severityIn kl_X0_206 rfl rfl (As := [.int (zI k)]) rfl rfl rfl dX0_judge_32 35 rfl ?_
      show V p l e (rmL 3 0 0) s m args below meth cd Q 3 s.heap [] 0 0 35 [(2, .int (zI 1)), (0, .ref b), (1, .int (zI k))] [.int (zI (co 2 k + 1)), .int (zI (co 1 k)), .ref (b + 23)]
      have hb_5 := hO.b2 k
      refine v_muV X hM (h_co.1) (c_X6_add l E (b + 23) 6 (co 12) (co 1 k) (co 2 k + 1) (by omega) (by omega) (by omega)) kvX6_add kiX6_add kl_X0_197 (q0 := 23) rfl rfl (As := [.int (zI (co 1 k)), .int (zI (co 2 k + 1))]) rfl rfl rfl dX0_judge_35 38 rfl (k' := 0) (n' := 0) rfl rfl (fsI (fun q q1 q2 => (Or.inl (fsH (by omega) (by omega))))) (h_co.sub 23 2 rfl (wc := rowW E (b + 23) 6 (co 12)) rfl) (fun rv H6 lo6 hM hF hpo => ?_)
      obtain ⟨rfl, hw_0⟩ := hpo
      have h_co := h_co.join 23 2 rfl hw_0 hF rfl (Nat.le_of_ble_eq_true rfl) (ws' := courtW E b (updC co 12 (updZ (co 12) (co 1 k) (co 12 (co 1 k) + (co 2 k + 1))))) rfl
      show V p l e (rmL 3 0 0) s m args below meth cd Q 3 H6 lo6 0 0 38 [(2, .int (zI 1)), (0, .ref b), (1, .int (zI k))] []
      refine v_aload_n X dX0_judge_38 39 rfl 1 rfl ?_
      refine v_getf X hM.C h_co.1 inX0 0 rfl rfl 7 (by decide) kf_X0_39 (fun _ h => h) rfl dX0_judge_39 42 rfl ?_
      refine v_iload_n X dX0_judge_42 43 rfl 2 rfl ?_
      refine v_iload_n X dX0_judge_43 44 rfl 0 rfl ?_
      refine v_if_eq X (by omega) dX0_judge_44 47 51 rfl (by decide) (fun c_7 => ?_) (fun c_7 => ?_)
      · skip
        exfalso; omega
      · skip
        refine v_iconst X dX0_judge_47 48 rfl ?_
        refine v_goto X dX0_judge_48 52 (by decide) ?_
        refine v_muV X hM (h_co.1) (c_X6_put l E (b + 7) 16 (co 4) k 1 k0 k1 (by omega)) kvX6_put kiX6_put kl_X0_173 (q0 := 7) rfl rfl (As := [.int (zI k), .int (zI 1)]) rfl rfl rfl dX0_judge_52 55 rfl (k' := 0) (n' := 0) rfl rfl (fsI (fun q q1 q2 => (Or.inl (fsH (by omega) (by omega))))) (h_co.sub 7 2 rfl (wc := rowW E (b + 7) 16 (co 4)) rfl) (fun rv H8 lo8 hM hF hpo => ?_)
        obtain ⟨rfl, hw_0⟩ := hpo
        have h_co := h_co.join 7 2 rfl hw_0 hF rfl (Nat.le_of_ble_eq_true rfl) (ws' := courtW E b (updC (updC co 4 (updZ (co 4) k 1)) 12 (updZ (co 12) (co 1 k) (co 12 (co 1 k) + (co 2 k + 1))))) rfl
        show V p l e (rmL 3 0 0) s m args below meth cd Q 3 H8 lo8 0 0 55 [(2, .int (zI 1)), (0, .ref b), (1, .int (zI k))] []
        refine v_aload_n X dX0_judge_55 56 rfl 1 rfl ?_
        refine v_getf X hM.C h_co.1 inX0 0 rfl rfl 6 (by decide) kf_X0_36 (fun _ h => h) rfl dX0_judge_56 59 rfl ?_
        refine v_iload_n X dX0_judge_59 60 rfl 2 rfl ?_
        refine v_aload_n X dX0_judge_60 61 rfl 1 rfl ?_
        refine v_getf X hM.C h_co.1 inX0 0 rfl rfl 8 (by decide) kf_X0_42 (fun _ h => h) rfl dX0_judge_61 64 rfl ?_
        refine v_iload_n X dX0_judge_64 65 rfl 2 rfl ?_
        refine v_rdV X hM.C (PW.part h_co.1 9 2 (wc := rowW E (b + 9) 16 (co 5)) rfl) (c_X6_get l E (b + 9) 16 (co 5) k k0 k1 (by omega)) kvX6_get kiX6_get kl_X0_157 rfl rfl (As := [.int (zI k)]) rfl rfl rfl dX0_judge_65 68 rfl ?_
        show V p l e (rmL 3 0 0) s m args below meth cd Q 3 H8 lo8 0 0 68 [(2, .int (zI 1)), (0, .ref b), (1, .int (zI k))] [.int (zI (co 5 k)), .int (zI k), .ref (b + 5)]
        have hb_9 := hO.b5 k
        refine v_iconst X dX0_judge_68 69 rfl ?_
        refine v_icmp_lt X (by omega) (by omega) dX0_judge_69 72 76 rfl (by decide) (fun c_10 => ?_) (fun c_10 => ?_)
        · skip
          exfalso; omega
        · skip
          refine v_iconst X dX0_judge_72 73 rfl ?_
          refine v_goto X dX0_judge_73 77 (by decide) ?_
          refine v_muV X hM (h_co.1) (c_X6_put l E (b + 5) 16 (co 3) k 2 k0 k1 (by omega)) kvX6_put kiX6_put kl_X0_173 (q0 := 5) rfl rfl (As := [.int (zI k), .int (zI 2)]) rfl rfl rfl dX0_judge_77 80 rfl (k' := 0) (n' := 0) rfl rfl (fsI (fun q q1 q2 => (Or.inl (fsH (by omega) (by omega))))) (h_co.sub 5 2 rfl (wc := rowW E (b + 5) 16 (co 3)) rfl) (fun rv H11 lo11 hM hF hpo => ?_)
          obtain ⟨rfl, hw_0⟩ := hpo
          have h_co := h_co.join 5 2 rfl hw_0 hF rfl (Nat.le_of_ble_eq_true rfl) (ws' := courtW E b (updC (updC (updC co 3 (updZ (co 3) k 2)) 4 (updZ (co 4) k 1)) 12 (updZ (co 12) (co 1 k) (co 12 (co 1 k) + (co 2 k + 1))))) rfl
          show V p l e (rmL 3 0 0) s m args below meth cd Q 3 H11 lo11 0 0 80 [(2, .int (zI 1)), (0, .ref b), (1, .int (zI k))] []
          refine v_aload_n X dX0_judge_80 81 rfl 1 rfl ?_
          refine v_dup X dX0_judge_81 82 rfl rfl ?_
          refine v_getf X hM.C h_co.1 inX0 0 rfl rfl 2 (by decide) kf_X0_18 (fun _ h => h) rfl dX0_judge_82 85 rfl ?_
          show V p l e (rmL 3 0 0) s m args below meth cd Q 3 H11 lo11 0 0 85 [(2, .int (zI 1)), (0, .ref b), (1, .int (zI k))] [.int (zI (co 0 2)), .ref b]
          refine v_iconst X dX0_judge_85 86 rfl ?_
          refine v_iadd X dX0_judge_86 87 rfl ?_
          refine v_putf X hM h_co ftX0 0 rfl rfl 2 (by decide) kf_X0_18 (fun _ h => h) rfl rfl rfl (Nat.le_of_ble_eq_true rfl) (Or.inl (fsH (by omega) (by omega))) dX0_judge_87 90 rfl (ws' := courtW E b (updC (updC (updC (updC co 0 (updZ (co 0) 2 (co 0 2 + 1))) 3 (updZ (co 3) k 2)) 4 (updZ (co 4) k 1)) 12 (updZ (co 12) (co 1 k) (co 12 (co 1 k) + (co 2 k + 1))))) rfl (fun H12 lo12 hzz hM hF h_co => ?_)
          clear hzz
          refine v_iload_n X dX0_judge_90 91 rfl 0 rfl ?_
          refine v_if_eq X (by omega) dX0_judge_91 94 98 rfl (by decide) (fun c_13 => ?_) (fun c_13 => ?_)
          · skip
            exfalso; omega
          · skip
            refine v_iconst X dX0_judge_94 95 rfl ?_
            refine v_goto X dX0_judge_95 99 (by decide) ?_
            subst hQ; exact m_iret X hr hlk hM dX0_judge_99 rfl ⟨rfl, h_co⟩
def judgeC10 (co : Nat → Int → Int) (k : Int) : Nat → Int → Int := updC (updC (updC (updC co 0 (updZ (co 0) 2 (co 0 2 + 1))) 3 (updZ (co 3) k 1)) 4 (updZ (co 4) k 1)) 12 (updZ (co 12) (co 1 k) (co 12 (co 1 k) + (co 2 k + 1)))
set_option maxHeartbeats 4000000 in
set_option maxRecDepth 20000 in
theorem c_X0_judge10 (l : Launch) (E : Nat → Nat → Nat) (b : Nat) (co : Nat → Int → Int) (k : Int) (hO : OkC co) (k0 : 0 ≤ k) (k1 : k < 16) (hg : 0 < mgC co k) (hla : co 5 k < 2) : Mu l yX0_judge cX0_judge 3 (some .int) 3 0 0 E [(b, 28)] [.ref b, .int (zI k)] (fun H => PR E b (courtW E b co) H) (fun rv H => rv = some (.int (zI 1)) ∧ PR E b (courtW E b (judgeC10 co k)) H) := by
  refine Mu.start (own := RX0) rfl (by decide +kernel) (Nat.le_of_ble_eq_true rfl) ?_
  intro p e s m below meth cd args Q hQ X hr hlk hnm hM hPr
  have h_co := hPr
  refine v_aload_n X dX0_judge_0 1 rfl 0 rfl ?_
  refine v_iload_n X dX0_judge_1 2 rfl 1 rfl ?_
  refine v_rdS X hM.C h_co.1 (c_X8_marginByTestimony l E b co k hO k0 k1) kvX8_marginByTestimony ksX8_marginByTestimony kl_X0_200 (As := [.ref b, .int (zI k)]) rfl rfl rfl dX0_judge_2 5 rfl ?_
  show V p l e (rmL 3 0 0) s m args below meth cd Q 3 s.heap [] 0 0 5 [(0, .ref b), (1, .int (zI k))] [.int (zI (mgC co k))]
  have hf_1 := mgC_b hO k
  refine v_if_le X (by omega) dX0_judge_5 8 12 rfl (by decide) (fun c_2 => ?_) (fun c_2 => ?_)
  · skip
    exfalso; omega
  · skip
    refine v_iconst X dX0_judge_8 9 rfl ?_
    refine v_goto X dX0_judge_9 13 (by decide) ?_
    refine v_istore_n X dX0_judge_13 14 rfl rfl (by decide) (L' := [(2, .int (zI 1)), (0, .ref b), (1, .int (zI k))]) rfl ?_
    refine v_iload_n X dX0_judge_14 15 rfl 0 rfl ?_
    refine v_if_eq X (by omega) dX0_judge_15 18 38 rfl (by decide) (fun c_3 => ?_) (fun c_3 => ?_)
    · skip
      exfalso; omega
    · skip
      refine v_aload_n X dX0_judge_18 19 rfl 1 rfl ?_
      refine v_getf X hM.C h_co.1 inX0 0 rfl rfl 15 (by decide) kf_X0_63 (fun _ h => h) rfl dX0_judge_19 22 rfl ?_
      refine v_aload_n X dX0_judge_22 23 rfl 1 rfl ?_
      refine v_getf X hM.C h_co.1 inX0 0 rfl rfl 4 (by decide) kf_X0_29 (fun _ h => h) rfl dX0_judge_23 26 rfl ?_
      refine v_iload_n X dX0_judge_26 27 rfl 2 rfl ?_
      refine v_rdV X hM.C (PW.part h_co.1 1 2 (wc := rowW E (b + 1) 16 (co 1)) rfl) (c_X6_get l E (b + 1) 16 (co 1) k k0 k1 (by omega)) kvX6_get kiX6_get kl_X0_157 rfl rfl (As := [.int (zI k)]) rfl rfl rfl dX0_judge_27 30 rfl ?_
      show V p l e (rmL 3 0 0) s m args below meth cd Q 3 s.heap [] 0 0 30 [(2, .int (zI 1)), (0, .ref b), (1, .int (zI k))] [.int (zI (co 1 k)), .ref (b + 23)]
      have hb_4 := hO.b1 k
      refine v_aload_n X dX0_judge_30 31 rfl 1 rfl ?_
      refine v_iload_n X dX0_judge_31 32 rfl 2 rfl ?_
      refine v_rdV X hM.C h_co.1 (c_X0_severityIn l E b co k k0 k1) kvX0_severityIn kiX0_severityIn kl_X0_206 rfl rfl (As := [.int (zI k)]) rfl rfl rfl dX0_judge_32 35 rfl ?_
      show V p l e (rmL 3 0 0) s m args below meth cd Q 3 s.heap [] 0 0 35 [(2, .int (zI 1)), (0, .ref b), (1, .int (zI k))] [.int (zI (co 2 k + 1)), .int (zI (co 1 k)), .ref (b + 23)]
      have hb_5 := hO.b2 k
      refine v_muV X hM (h_co.1) (c_X6_add l E (b + 23) 6 (co 12) (co 1 k) (co 2 k + 1) (by omega) (by omega) (by omega)) kvX6_add kiX6_add kl_X0_197 (q0 := 23) rfl rfl (As := [.int (zI (co 1 k)), .int (zI (co 2 k + 1))]) rfl rfl rfl dX0_judge_35 38 rfl (k' := 0) (n' := 0) rfl rfl (fsI (fun q q1 q2 => (Or.inl (fsH (by omega) (by omega))))) (h_co.sub 23 2 rfl (wc := rowW E (b + 23) 6 (co 12)) rfl) (fun rv H6 lo6 hM hF hpo => ?_)
      obtain ⟨rfl, hw_0⟩ := hpo
      have h_co := h_co.join 23 2 rfl hw_0 hF rfl (Nat.le_of_ble_eq_true rfl) (ws' := courtW E b (updC co 12 (updZ (co 12) (co 1 k) (co 12 (co 1 k) + (co 2 k + 1))))) rfl
      show V p l e (rmL 3 0 0) s m args below meth cd Q 3 H6 lo6 0 0 38 [(2, .int (zI 1)), (0, .ref b), (1, .int (zI k))] []
      refine v_aload_n X dX0_judge_38 39 rfl 1 rfl ?_
      refine v_getf X hM.C h_co.1 inX0 0 rfl rfl 7 (by decide) kf_X0_39 (fun _ h => h) rfl dX0_judge_39 42 rfl ?_
      refine v_iload_n X dX0_judge_42 43 rfl 2 rfl ?_
      refine v_iload_n X dX0_judge_43 44 rfl 0 rfl ?_
      refine v_if_eq X (by omega) dX0_judge_44 47 51 rfl (by decide) (fun c_7 => ?_) (fun c_7 => ?_)
      · skip
        exfalso; omega
      · skip
        refine v_iconst X dX0_judge_47 48 rfl ?_
        refine v_goto X dX0_judge_48 52 (by decide) ?_
        refine v_muV X hM (h_co.1) (c_X6_put l E (b + 7) 16 (co 4) k 1 k0 k1 (by omega)) kvX6_put kiX6_put kl_X0_173 (q0 := 7) rfl rfl (As := [.int (zI k), .int (zI 1)]) rfl rfl rfl dX0_judge_52 55 rfl (k' := 0) (n' := 0) rfl rfl (fsI (fun q q1 q2 => (Or.inl (fsH (by omega) (by omega))))) (h_co.sub 7 2 rfl (wc := rowW E (b + 7) 16 (co 4)) rfl) (fun rv H8 lo8 hM hF hpo => ?_)
        obtain ⟨rfl, hw_0⟩ := hpo
        have h_co := h_co.join 7 2 rfl hw_0 hF rfl (Nat.le_of_ble_eq_true rfl) (ws' := courtW E b (updC (updC co 4 (updZ (co 4) k 1)) 12 (updZ (co 12) (co 1 k) (co 12 (co 1 k) + (co 2 k + 1))))) rfl
        show V p l e (rmL 3 0 0) s m args below meth cd Q 3 H8 lo8 0 0 55 [(2, .int (zI 1)), (0, .ref b), (1, .int (zI k))] []
        refine v_aload_n X dX0_judge_55 56 rfl 1 rfl ?_
        refine v_getf X hM.C h_co.1 inX0 0 rfl rfl 6 (by decide) kf_X0_36 (fun _ h => h) rfl dX0_judge_56 59 rfl ?_
        refine v_iload_n X dX0_judge_59 60 rfl 2 rfl ?_
        refine v_aload_n X dX0_judge_60 61 rfl 1 rfl ?_
        refine v_getf X hM.C h_co.1 inX0 0 rfl rfl 8 (by decide) kf_X0_42 (fun _ h => h) rfl dX0_judge_61 64 rfl ?_
        refine v_iload_n X dX0_judge_64 65 rfl 2 rfl ?_
        refine v_rdV X hM.C (PW.part h_co.1 9 2 (wc := rowW E (b + 9) 16 (co 5)) rfl) (c_X6_get l E (b + 9) 16 (co 5) k k0 k1 (by omega)) kvX6_get kiX6_get kl_X0_157 rfl rfl (As := [.int (zI k)]) rfl rfl rfl dX0_judge_65 68 rfl ?_
        show V p l e (rmL 3 0 0) s m args below meth cd Q 3 H8 lo8 0 0 68 [(2, .int (zI 1)), (0, .ref b), (1, .int (zI k))] [.int (zI (co 5 k)), .int (zI k), .ref (b + 5)]
        have hb_9 := hO.b5 k
        refine v_iconst X dX0_judge_68 69 rfl ?_
        refine v_icmp_lt X (by omega) (by omega) dX0_judge_69 72 76 rfl (by decide) (fun c_10 => ?_) (fun c_10 => ?_)
        · skip
          refine v_iconst X dX0_judge_76 77 rfl ?_
          refine v_muV X hM (h_co.1) (c_X6_put l E (b + 5) 16 (co 3) k 1 k0 k1 (by omega)) kvX6_put kiX6_put kl_X0_173 (q0 := 5) rfl rfl (As := [.int (zI k), .int (zI 1)]) rfl rfl rfl dX0_judge_77 80 rfl (k' := 0) (n' := 0) rfl rfl (fsI (fun q q1 q2 => (Or.inl (fsH (by omega) (by omega))))) (h_co.sub 5 2 rfl (wc := rowW E (b + 5) 16 (co 3)) rfl) (fun rv H11 lo11 hM hF hpo => ?_)
          obtain ⟨rfl, hw_0⟩ := hpo
          have h_co := h_co.join 5 2 rfl hw_0 hF rfl (Nat.le_of_ble_eq_true rfl) (ws' := courtW E b (updC (updC (updC co 3 (updZ (co 3) k 1)) 4 (updZ (co 4) k 1)) 12 (updZ (co 12) (co 1 k) (co 12 (co 1 k) + (co 2 k + 1))))) rfl
          show V p l e (rmL 3 0 0) s m args below meth cd Q 3 H11 lo11 0 0 80 [(2, .int (zI 1)), (0, .ref b), (1, .int (zI k))] []
          refine v_aload_n X dX0_judge_80 81 rfl 1 rfl ?_
          refine v_dup X dX0_judge_81 82 rfl rfl ?_
          refine v_getf X hM.C h_co.1 inX0 0 rfl rfl 2 (by decide) kf_X0_18 (fun _ h => h) rfl dX0_judge_82 85 rfl ?_
          show V p l e (rmL 3 0 0) s m args below meth cd Q 3 H11 lo11 0 0 85 [(2, .int (zI 1)), (0, .ref b), (1, .int (zI k))] [.int (zI (co 0 2)), .ref b]
          refine v_iconst X dX0_judge_85 86 rfl ?_
          refine v_iadd X dX0_judge_86 87 rfl ?_
          refine v_putf X hM h_co ftX0 0 rfl rfl 2 (by decide) kf_X0_18 (fun _ h => h) rfl rfl rfl (Nat.le_of_ble_eq_true rfl) (Or.inl (fsH (by omega) (by omega))) dX0_judge_87 90 rfl (ws' := courtW E b (updC (updC (updC (updC co 0 (updZ (co 0) 2 (co 0 2 + 1))) 3 (updZ (co 3) k 1)) 4 (updZ (co 4) k 1)) 12 (updZ (co 12) (co 1 k) (co 12 (co 1 k) + (co 2 k + 1))))) rfl (fun H12 lo12 hzz hM hF h_co => ?_)
          clear hzz
          refine v_iload_n X dX0_judge_90 91 rfl 0 rfl ?_
          refine v_if_eq X (by omega) dX0_judge_91 94 98 rfl (by decide) (fun c_13 => ?_) (fun c_13 => ?_)
          · skip
            exfalso; omega
          · skip
            refine v_iconst X dX0_judge_94 95 rfl ?_
            refine v_goto X dX0_judge_95 99 (by decide) ?_
            subst hQ; exact m_iret X hr hlk hM dX0_judge_99 rfl ⟨rfl, h_co⟩
        · skip
          exfalso; omega
def reopenC1 (co : Nat → Int → Int) (k : Int) : Nat → Int → Int := updC (updC (updC (updC co 3 (updZ (co 3) k 0)) 4 (updZ (co 4) k 0)) 5 (updZ (co 5) k (co 5 k + 1))) 12 (updZ (co 12) (co 1 k) (co 12 (co 1 k) + (-(co 2 k + 1))))
set_option maxHeartbeats 4000000 in
set_option maxRecDepth 20000 in
theorem c_X0_reopen1 (l : Launch) (E : Nat → Nat → Nat) (b : Nat) (co : Nat → Int → Int) (k : Int) (hO : OkC co) (k0 : 0 ≤ k) (k1 : k < 16) (hg : ¬ co 4 k = 0) : Mu l yX0_reopen cX0_reopen 2 (some .int) 2 0 0 E [(b, 28)] [.ref b, .int (zI k)] (fun H => PR E b (courtW E b co) H) (fun rv H => rv = some (.int (zI (co 5 k + 1))) ∧ PR E b (courtW E b (reopenC1 co k)) H) := by
  refine Mu.start (own := RX0) rfl (by decide +kernel) (Nat.le_of_ble_eq_true rfl) ?_
  intro p e s m below meth cd args Q hQ X hr hlk hnm hM hPr
  have h_co := hPr
  refine v_aload_n X dX0_reopen_0 1 rfl 0 rfl ?_
  refine v_iload_n X dX0_reopen_1 2 rfl 1 rfl ?_
  refine v_rdV X hM.C h_co.1 (c_X0_isFoundGuilty l E b co k hO k0 k1) kvX0_isFoundGuilty kiX0_isFoundGuilty kl_X0_209 rfl rfl (As := [.int (zI k)]) rfl rfl rfl dX0_reopen_2 5 rfl ?_
  show V p l e (rmL 2 0 0) s m args below meth cd Q 2 s.heap [] 0 0 5 [(0, .ref b), (1, .int (zI k))] [.int (zI (bz (¬ co 4 k = 0)))]
  refine v_bif_eq X dX0_reopen_5 8 29 rfl (by decide) (fun c_1 => ?_) (fun c_1 => ?_)
  · skip
    exfalso; omega
  · skip
    refine v_aload_n X dX0_reopen_8 9 rfl 0 rfl ?_
    refine v_getf X hM.C h_co.1 inX0 0 rfl rfl 15 (by decide) kf_X0_63 (fun _ h => h) rfl dX0_reopen_9 12 rfl ?_
    refine v_aload_n X dX0_reopen_12 13 rfl 0 rfl ?_
    refine v_getf X hM.C h_co.1 inX0 0 rfl rfl 4 (by decide) kf_X0_29 (fun _ h => h) rfl dX0_reopen_13 16 rfl ?_
    refine v_iload_n X dX0_reopen_16 17 rfl 1 rfl ?_
    refine v_rdV X hM.C (PW.part h_co.1 1 2 (wc := rowW E (b + 1) 16 (co 1)) rfl) (c_X6_get l E (b + 1) 16 (co 1) k k0 k1 (by omega)) kvX6_get kiX6_get kl_X0_157 rfl rfl (As := [.int (zI k)]) rfl rfl rfl dX0_reopen_17 20 rfl ?_
    show V p l e (rmL 2 0 0) s m args below meth cd Q 2 s.heap [] 0 0 20 [(0, .ref b), (1, .int (zI k))] [.int (zI (co 1 k)), .ref (b + 23)]
    have hb_2 := hO.b1 k
    refine v_aload_n X dX0_reopen_20 21 rfl 0 rfl ?_
    refine v_iload_n X dX0_reopen_21 22 rfl 1 rfl ?_
    refine v_rdV X hM.C h_co.1 (c_X0_severityIn l E b co k k0 k1) kvX0_severityIn kiX0_severityIn kl_X0_206 rfl rfl (As := [.int (zI k)]) rfl rfl rfl dX0_reopen_22 25 rfl ?_
    show V p l e (rmL 2 0 0) s m args below meth cd Q 2 s.heap [] 0 0 25 [(0, .ref b), (1, .int (zI k))] [.int (zI (co 2 k + 1)), .int (zI (co 1 k)), .ref (b + 23)]
    have hb_3 := hO.b2 k
    refine v_ineg X dX0_reopen_25 26 rfl ?_
    refine v_muV X hM (h_co.1) (c_X6_add l E (b + 23) 6 (co 12) (co 1 k) (-(co 2 k + 1)) (by omega) (by omega) (by omega)) kvX6_add kiX6_add kl_X0_197 (q0 := 23) rfl rfl (As := [.int (zI (co 1 k)), .int (zI (-(co 2 k + 1)))]) rfl rfl rfl dX0_reopen_26 29 rfl (k' := 0) (n' := 0) rfl rfl (fsI (fun q q1 q2 => (Or.inl (fsH (by omega) (by omega))))) (h_co.sub 23 2 rfl (wc := rowW E (b + 23) 6 (co 12)) rfl) (fun rv H4 lo4 hM hF hpo => ?_)
    obtain ⟨rfl, hw_0⟩ := hpo
    have h_co := h_co.join 23 2 rfl hw_0 hF rfl (Nat.le_of_ble_eq_true rfl) (ws' := courtW E b (updC co 12 (updZ (co 12) (co 1 k) (co 12 (co 1 k) + (-(co 2 k + 1)))))) rfl
    show V p l e (rmL 2 0 0) s m args below meth cd Q 2 H4 lo4 0 0 29 [(0, .ref b), (1, .int (zI k))] []
    refine v_aload_n X dX0_reopen_29 30 rfl 0 rfl ?_
    refine v_getf X hM.C h_co.1 inX0 0 rfl rfl 7 (by decide) kf_X0_39 (fun _ h => h) rfl dX0_reopen_30 33 rfl ?_
    refine v_iload_n X dX0_reopen_33 34 rfl 1 rfl ?_
    refine v_iconst X dX0_reopen_34 35 rfl ?_
    refine v_muV X hM (h_co.1) (c_X6_put l E (b + 7) 16 (co 4) k 0 k0 k1 (by omega)) kvX6_put kiX6_put kl_X0_173 (q0 := 7) rfl rfl (As := [.int (zI k), .int (zI 0)]) rfl rfl rfl dX0_reopen_35 38 rfl (k' := 0) (n' := 0) rfl rfl (fsI (fun q q1 q2 => (Or.inl (fsH (by omega) (by omega))))) (h_co.sub 7 2 rfl (wc := rowW E (b + 7) 16 (co 4)) rfl) (fun rv H5 lo5 hM hF hpo => ?_)
    obtain ⟨rfl, hw_0⟩ := hpo
    have h_co := h_co.join 7 2 rfl hw_0 hF rfl (Nat.le_of_ble_eq_true rfl) (ws' := courtW E b (updC (updC co 4 (updZ (co 4) k 0)) 12 (updZ (co 12) (co 1 k) (co 12 (co 1 k) + (-(co 2 k + 1)))))) rfl
    show V p l e (rmL 2 0 0) s m args below meth cd Q 2 H5 lo5 0 0 38 [(0, .ref b), (1, .int (zI k))] []
    refine v_aload_n X dX0_reopen_38 39 rfl 0 rfl ?_
    refine v_getf X hM.C h_co.1 inX0 0 rfl rfl 6 (by decide) kf_X0_36 (fun _ h => h) rfl dX0_reopen_39 42 rfl ?_
    refine v_iload_n X dX0_reopen_42 43 rfl 1 rfl ?_
    refine v_iconst X dX0_reopen_43 44 rfl ?_
    refine v_muV X hM (h_co.1) (c_X6_put l E (b + 5) 16 (co 3) k 0 k0 k1 (by omega)) kvX6_put kiX6_put kl_X0_173 (q0 := 5) rfl rfl (As := [.int (zI k), .int (zI 0)]) rfl rfl rfl dX0_reopen_44 47 rfl (k' := 0) (n' := 0) rfl rfl (fsI (fun q q1 q2 => (Or.inl (fsH (by omega) (by omega))))) (h_co.sub 5 2 rfl (wc := rowW E (b + 5) 16 (co 3)) rfl) (fun rv H6 lo6 hM hF hpo => ?_)
    obtain ⟨rfl, hw_0⟩ := hpo
    have h_co := h_co.join 5 2 rfl hw_0 hF rfl (Nat.le_of_ble_eq_true rfl) (ws' := courtW E b (updC (updC (updC co 3 (updZ (co 3) k 0)) 4 (updZ (co 4) k 0)) 12 (updZ (co 12) (co 1 k) (co 12 (co 1 k) + (-(co 2 k + 1)))))) rfl
    show V p l e (rmL 2 0 0) s m args below meth cd Q 2 H6 lo6 0 0 47 [(0, .ref b), (1, .int (zI k))] []
    refine v_aload_n X dX0_reopen_47 48 rfl 0 rfl ?_
    refine v_getf X hM.C h_co.1 inX0 0 rfl rfl 8 (by decide) kf_X0_42 (fun _ h => h) rfl dX0_reopen_48 51 rfl ?_
    refine v_iload_n X dX0_reopen_51 52 rfl 1 rfl ?_
    refine v_iconst X dX0_reopen_52 53 rfl ?_
    refine v_muV X hM (h_co.1) (c_X6_add l E (b + 9) 16 (co 5) k 1 k0 k1 (by omega)) kvX6_add kiX6_add kl_X0_197 (q0 := 9) rfl rfl (As := [.int (zI k), .int (zI 1)]) rfl rfl rfl dX0_reopen_53 56 rfl (k' := 0) (n' := 0) rfl rfl (fsI (fun q q1 q2 => (Or.inl (fsH (by omega) (by omega))))) (h_co.sub 9 2 rfl (wc := rowW E (b + 9) 16 (co 5)) rfl) (fun rv H7 lo7 hM hF hpo => ?_)
    obtain ⟨rfl, hw_0⟩ := hpo
    have h_co := h_co.join 9 2 rfl hw_0 hF rfl (Nat.le_of_ble_eq_true rfl) (ws' := courtW E b (updC (updC (updC (updC co 3 (updZ (co 3) k 0)) 4 (updZ (co 4) k 0)) 5 (updZ (co 5) k (co 5 k + 1))) 12 (updZ (co 12) (co 1 k) (co 12 (co 1 k) + (-(co 2 k + 1)))))) rfl
    show V p l e (rmL 2 0 0) s m args below meth cd Q 2 H7 lo7 0 0 56 [(0, .ref b), (1, .int (zI k))] []
    refine v_aload_n X dX0_reopen_56 57 rfl 0 rfl ?_
    refine v_getf X hM.C h_co.1 inX0 0 rfl rfl 8 (by decide) kf_X0_42 (fun _ h => h) rfl dX0_reopen_57 60 rfl ?_
    refine v_iload_n X dX0_reopen_60 61 rfl 1 rfl ?_
    refine v_rdV X hM.C (PW.part h_co.1 9 2 (wc := rowW E (b + 9) 16 (updZ (co 5) k (co 5 k + 1))) rfl) (c_X6_get l E (b + 9) 16 (updZ (co 5) k (co 5 k + 1)) k k0 k1 (by omega)) kvX6_get kiX6_get kl_X0_157 rfl rfl (As := [.int (zI k)]) rfl rfl rfl dX0_reopen_61 64 rfl ?_
    show V p l e (rmL 2 0 0) s m args below meth cd Q 2 H7 lo7 0 0 64 [(0, .ref b), (1, .int (zI k))] [.int (zI ((updZ (co 5) k (co 5 k + 1)) k))]
    have hb_8 := hO.b5 k
    subst hQ; exact m_iret X hr hlk hM dX0_reopen_64 rfl ⟨(sv (by rw [updZ_at])), h_co⟩
def judgeC01 (co : Nat → Int → Int) (k : Int) : Nat → Int → Int := updC (updC (updC co 0 (updZ (co 0) 2 (co 0 2 + 1))) 3 (updZ (co 3) k 2)) 4 (updZ (co 4) k 0)
set_option maxHeartbeats 4000000 in
set_option maxRecDepth 20000 in
theorem c_X0_judge01 (l : Launch) (E : Nat → Nat → Nat) (b : Nat) (co : Nat → Int → Int) (k : Int) (hO : OkC co) (k0 : 0 ≤ k) (k1 : k < 16) (hg : mgC co k ≤ 0) (hla : 2 ≤ co 5 k) : Mu l yX0_judge cX0_judge 3 (some .int) 3 0 0 E [(b, 28)] [.ref b, .int (zI k)] (fun H => PR E b (courtW E b co) H) (fun rv H => rv = some (.int (zI 0)) ∧ PR E b (courtW E b (judgeC01 co k)) H) := by
  refine Mu.start (own := RX0) rfl (by decide +kernel) (Nat.le_of_ble_eq_true rfl) ?_
  intro p e s m below meth cd args Q hQ X hr hlk hnm hM hPr
  have h_co := hPr
  refine v_aload_n X dX0_judge_0 1 rfl 0 rfl ?_
  refine v_iload_n X dX0_judge_1 2 rfl 1 rfl ?_
  refine v_rdS X hM.C h_co.1 (c_X8_marginByTestimony l E b co k hO k0 k1) kvX8_marginByTestimony ksX8_marginByTestimony kl_X0_200 (As := [.ref b, .int (zI k)]) rfl rfl rfl dX0_judge_2 5 rfl ?_
  show V p l e (rmL 3 0 0) s m args below meth cd Q 3 s.heap [] 0 0 5 [(0, .ref b), (1, .int (zI k))] [.int (zI (mgC co k))]
  have hf_1 := mgC_b hO k
  refine v_if_le X (by omega) dX0_judge_5 8 12 rfl (by decide) (fun c_2 => ?_) (fun c_2 => ?_)
  · skip
    refine v_iconst X dX0_judge_12 13 rfl ?_
    refine v_istore_n X dX0_judge_13 14 rfl rfl (by decide) (L' := [(2, .int (zI 0)), (0, .ref b), (1, .int (zI k))]) rfl ?_
    refine v_iload_n X dX0_judge_14 15 rfl 0 rfl ?_
    refine v_if_eq X (by omega) dX0_judge_15 18 38 rfl (by decide) (fun c_3 => ?_) (fun c_3 => ?_)
    · skip
      refine v_aload_n X dX0_judge_38 39 rfl 1 rfl ?_
      refine v_getf X hM.C h_co.1 inX0 0 rfl rfl 7 (by decide) kf_X0_39 (fun _ h => h) rfl dX0_judge_39 42 rfl ?_
      refine v_iload_n X dX0_judge_42 43 rfl 2 rfl ?_
      refine v_iload_n X dX0_judge_43 44 rfl 0 rfl ?_
      refine v_if_eq X (by omega) dX0_judge_44 47 51 rfl (by decide) (fun c_4 => ?_) (fun c_4 => ?_)
      · skip
        refine v_iconst X dX0_judge_51 52 rfl ?_
        refine v_muV X hM (h_co.1) (c_X6_put l E (b + 7) 16 (co 4) k 0 k0 k1 (by omega)) kvX6_put kiX6_put kl_X0_173 (q0 := 7) rfl rfl (As := [.int (zI k), .int (zI 0)]) rfl rfl rfl dX0_judge_52 55 rfl (k' := 0) (n' := 0) rfl rfl (fsI (fun q q1 q2 => (Or.inl (fsH (by omega) (by omega))))) (h_co.sub 7 2 rfl (wc := rowW E (b + 7) 16 (co 4)) rfl) (fun rv H5 lo5 hM hF hpo => ?_)
        obtain ⟨rfl, hw_0⟩ := hpo
        have h_co := h_co.join 7 2 rfl hw_0 hF rfl (Nat.le_of_ble_eq_true rfl) (ws' := courtW E b (updC co 4 (updZ (co 4) k 0))) rfl
        show V p l e (rmL 3 0 0) s m args below meth cd Q 3 H5 lo5 0 0 55 [(2, .int (zI 0)), (0, .ref b), (1, .int (zI k))] []
        refine v_aload_n X dX0_judge_55 56 rfl 1 rfl ?_
        refine v_getf X hM.C h_co.1 inX0 0 rfl rfl 6 (by decide) kf_X0_36 (fun _ h => h) rfl dX0_judge_56 59 rfl ?_
        refine v_iload_n X dX0_judge_59 60 rfl 2 rfl ?_
        refine v_aload_n X dX0_judge_60 61 rfl 1 rfl ?_
        refine v_getf X hM.C h_co.1 inX0 0 rfl rfl 8 (by decide) kf_X0_42 (fun _ h => h) rfl dX0_judge_61 64 rfl ?_
        refine v_iload_n X dX0_judge_64 65 rfl 2 rfl ?_
        refine v_rdV X hM.C (PW.part h_co.1 9 2 (wc := rowW E (b + 9) 16 (co 5)) rfl) (c_X6_get l E (b + 9) 16 (co 5) k k0 k1 (by omega)) kvX6_get kiX6_get kl_X0_157 rfl rfl (As := [.int (zI k)]) rfl rfl rfl dX0_judge_65 68 rfl ?_
        show V p l e (rmL 3 0 0) s m args below meth cd Q 3 H5 lo5 0 0 68 [(2, .int (zI 0)), (0, .ref b), (1, .int (zI k))] [.int (zI (co 5 k)), .int (zI k), .ref (b + 5)]
        have hb_6 := hO.b5 k
        refine v_iconst X dX0_judge_68 69 rfl ?_
        refine v_icmp_lt X (by omega) (by omega) dX0_judge_69 72 76 rfl (by decide) (fun c_7 => ?_) (fun c_7 => ?_)
        · skip
          exfalso; omega
        · skip
          refine v_iconst X dX0_judge_72 73 rfl ?_
          refine v_goto X dX0_judge_73 77 (by decide) ?_
          refine v_muV X hM (h_co.1) (c_X6_put l E (b + 5) 16 (co 3) k 2 k0 k1 (by omega)) kvX6_put kiX6_put kl_X0_173 (q0 := 5) rfl rfl (As := [.int (zI k), .int (zI 2)]) rfl rfl rfl dX0_judge_77 80 rfl (k' := 0) (n' := 0) rfl rfl (fsI (fun q q1 q2 => (Or.inl (fsH (by omega) (by omega))))) (h_co.sub 5 2 rfl (wc := rowW E (b + 5) 16 (co 3)) rfl) (fun rv H8 lo8 hM hF hpo => ?_)
          obtain ⟨rfl, hw_0⟩ := hpo
          have h_co := h_co.join 5 2 rfl hw_0 hF rfl (Nat.le_of_ble_eq_true rfl) (ws' := courtW E b (updC (updC co 3 (updZ (co 3) k 2)) 4 (updZ (co 4) k 0))) rfl
          show V p l e (rmL 3 0 0) s m args below meth cd Q 3 H8 lo8 0 0 80 [(2, .int (zI 0)), (0, .ref b), (1, .int (zI k))] []
          refine v_aload_n X dX0_judge_80 81 rfl 1 rfl ?_
          refine v_dup X dX0_judge_81 82 rfl rfl ?_
          refine v_getf X hM.C h_co.1 inX0 0 rfl rfl 2 (by decide) kf_X0_18 (fun _ h => h) rfl dX0_judge_82 85 rfl ?_
          show V p l e (rmL 3 0 0) s m args below meth cd Q 3 H8 lo8 0 0 85 [(2, .int (zI 0)), (0, .ref b), (1, .int (zI k))] [.int (zI (co 0 2)), .ref b]
          refine v_iconst X dX0_judge_85 86 rfl ?_
          refine v_iadd X dX0_judge_86 87 rfl ?_
          refine v_putf X hM h_co ftX0 0 rfl rfl 2 (by decide) kf_X0_18 (fun _ h => h) rfl rfl rfl (Nat.le_of_ble_eq_true rfl) (Or.inl (fsH (by omega) (by omega))) dX0_judge_87 90 rfl (ws' := courtW E b (updC (updC (updC co 0 (updZ (co 0) 2 (co 0 2 + 1))) 3 (updZ (co 3) k 2)) 4 (updZ (co 4) k 0))) rfl (fun H9 lo9 hzz hM hF h_co => ?_)
          clear hzz
          refine v_iload_n X dX0_judge_90 91 rfl 0 rfl ?_
          refine v_if_eq X (by omega) dX0_judge_91 94 98 rfl (by decide) (fun c_10 => ?_) (fun c_10 => ?_)
          · skip
            refine v_iconst X dX0_judge_98 99 rfl ?_
            subst hQ; exact m_iret X hr hlk hM dX0_judge_99 rfl ⟨rfl, h_co⟩
          · skip
            exfalso; omega
      · skip
        exfalso; omega
    · skip
      exfalso; omega
  · skip
    exfalso; omega
def judgeC00 (co : Nat → Int → Int) (k : Int) : Nat → Int → Int := updC (updC (updC co 0 (updZ (co 0) 2 (co 0 2 + 1))) 3 (updZ (co 3) k 1)) 4 (updZ (co 4) k 0)
set_option maxHeartbeats 4000000 in
set_option maxRecDepth 20000 in
theorem c_X0_judge00 (l : Launch) (E : Nat → Nat → Nat) (b : Nat) (co : Nat → Int → Int) (k : Int) (hO : OkC co) (k0 : 0 ≤ k) (k1 : k < 16) (hg : mgC co k ≤ 0) (hla : co 5 k < 2) : Mu l yX0_judge cX0_judge 3 (some .int) 3 0 0 E [(b, 28)] [.ref b, .int (zI k)] (fun H => PR E b (courtW E b co) H) (fun rv H => rv = some (.int (zI 0)) ∧ PR E b (courtW E b (judgeC00 co k)) H) := by
  refine Mu.start (own := RX0) rfl (by decide +kernel) (Nat.le_of_ble_eq_true rfl) ?_
  intro p e s m below meth cd args Q hQ X hr hlk hnm hM hPr
  have h_co := hPr
  refine v_aload_n X dX0_judge_0 1 rfl 0 rfl ?_
  refine v_iload_n X dX0_judge_1 2 rfl 1 rfl ?_
  refine v_rdS X hM.C h_co.1 (c_X8_marginByTestimony l E b co k hO k0 k1) kvX8_marginByTestimony ksX8_marginByTestimony kl_X0_200 (As := [.ref b, .int (zI k)]) rfl rfl rfl dX0_judge_2 5 rfl ?_
  show V p l e (rmL 3 0 0) s m args below meth cd Q 3 s.heap [] 0 0 5 [(0, .ref b), (1, .int (zI k))] [.int (zI (mgC co k))]
  have hf_1 := mgC_b hO k
  refine v_if_le X (by omega) dX0_judge_5 8 12 rfl (by decide) (fun c_2 => ?_) (fun c_2 => ?_)
  · skip
    refine v_iconst X dX0_judge_12 13 rfl ?_
    refine v_istore_n X dX0_judge_13 14 rfl rfl (by decide) (L' := [(2, .int (zI 0)), (0, .ref b), (1, .int (zI k))]) rfl ?_
    refine v_iload_n X dX0_judge_14 15 rfl 0 rfl ?_
    refine v_if_eq X (by omega) dX0_judge_15 18 38 rfl (by decide) (fun c_3 => ?_) (fun c_3 => ?_)
    · skip
      refine v_aload_n X dX0_judge_38 39 rfl 1 rfl ?_
      refine v_getf X hM.C h_co.1 inX0 0 rfl rfl 7 (by decide) kf_X0_39 (fun _ h => h) rfl dX0_judge_39 42 rfl ?_
      refine v_iload_n X dX0_judge_42 43 rfl 2 rfl ?_
      refine v_iload_n X dX0_judge_43 44 rfl 0 rfl ?_
      refine v_if_eq X (by omega) dX0_judge_44 47 51 rfl (by decide) (fun c_4 => ?_) (fun c_4 => ?_)
      · skip
        refine v_iconst X dX0_judge_51 52 rfl ?_
        refine v_muV X hM (h_co.1) (c_X6_put l E (b + 7) 16 (co 4) k 0 k0 k1 (by omega)) kvX6_put kiX6_put kl_X0_173 (q0 := 7) rfl rfl (As := [.int (zI k), .int (zI 0)]) rfl rfl rfl dX0_judge_52 55 rfl (k' := 0) (n' := 0) rfl rfl (fsI (fun q q1 q2 => (Or.inl (fsH (by omega) (by omega))))) (h_co.sub 7 2 rfl (wc := rowW E (b + 7) 16 (co 4)) rfl) (fun rv H5 lo5 hM hF hpo => ?_)
        obtain ⟨rfl, hw_0⟩ := hpo
        have h_co := h_co.join 7 2 rfl hw_0 hF rfl (Nat.le_of_ble_eq_true rfl) (ws' := courtW E b (updC co 4 (updZ (co 4) k 0))) rfl
        show V p l e (rmL 3 0 0) s m args below meth cd Q 3 H5 lo5 0 0 55 [(2, .int (zI 0)), (0, .ref b), (1, .int (zI k))] []
        refine v_aload_n X dX0_judge_55 56 rfl 1 rfl ?_
        refine v_getf X hM.C h_co.1 inX0 0 rfl rfl 6 (by decide) kf_X0_36 (fun _ h => h) rfl dX0_judge_56 59 rfl ?_
        refine v_iload_n X dX0_judge_59 60 rfl 2 rfl ?_
        refine v_aload_n X dX0_judge_60 61 rfl 1 rfl ?_
        refine v_getf X hM.C h_co.1 inX0 0 rfl rfl 8 (by decide) kf_X0_42 (fun _ h => h) rfl dX0_judge_61 64 rfl ?_
        refine v_iload_n X dX0_judge_64 65 rfl 2 rfl ?_
        refine v_rdV X hM.C (PW.part h_co.1 9 2 (wc := rowW E (b + 9) 16 (co 5)) rfl) (c_X6_get l E (b + 9) 16 (co 5) k k0 k1 (by omega)) kvX6_get kiX6_get kl_X0_157 rfl rfl (As := [.int (zI k)]) rfl rfl rfl dX0_judge_65 68 rfl ?_
        show V p l e (rmL 3 0 0) s m args below meth cd Q 3 H5 lo5 0 0 68 [(2, .int (zI 0)), (0, .ref b), (1, .int (zI k))] [.int (zI (co 5 k)), .int (zI k), .ref (b + 5)]
        have hb_6 := hO.b5 k
        refine v_iconst X dX0_judge_68 69 rfl ?_
        refine v_icmp_lt X (by omega) (by omega) dX0_judge_69 72 76 rfl (by decide) (fun c_7 => ?_) (fun c_7 => ?_)
        · skip
          refine v_iconst X dX0_judge_76 77 rfl ?_
          refine v_muV X hM (h_co.1) (c_X6_put l E (b + 5) 16 (co 3) k 1 k0 k1 (by omega)) kvX6_put kiX6_put kl_X0_173 (q0 := 5) rfl rfl (As := [.int (zI k), .int (zI 1)]) rfl rfl rfl dX0_judge_77 80 rfl (k' := 0) (n' := 0) rfl rfl (fsI (fun q q1 q2 => (Or.inl (fsH (by omega) (by omega))))) (h_co.sub 5 2 rfl (wc := rowW E (b + 5) 16 (co 3)) rfl) (fun rv H8 lo8 hM hF hpo => ?_)
          obtain ⟨rfl, hw_0⟩ := hpo
          have h_co := h_co.join 5 2 rfl hw_0 hF rfl (Nat.le_of_ble_eq_true rfl) (ws' := courtW E b (updC (updC co 3 (updZ (co 3) k 1)) 4 (updZ (co 4) k 0))) rfl
          show V p l e (rmL 3 0 0) s m args below meth cd Q 3 H8 lo8 0 0 80 [(2, .int (zI 0)), (0, .ref b), (1, .int (zI k))] []
          refine v_aload_n X dX0_judge_80 81 rfl 1 rfl ?_
          refine v_dup X dX0_judge_81 82 rfl rfl ?_
          refine v_getf X hM.C h_co.1 inX0 0 rfl rfl 2 (by decide) kf_X0_18 (fun _ h => h) rfl dX0_judge_82 85 rfl ?_
          show V p l e (rmL 3 0 0) s m args below meth cd Q 3 H8 lo8 0 0 85 [(2, .int (zI 0)), (0, .ref b), (1, .int (zI k))] [.int (zI (co 0 2)), .ref b]
          refine v_iconst X dX0_judge_85 86 rfl ?_
          refine v_iadd X dX0_judge_86 87 rfl ?_
          refine v_putf X hM h_co ftX0 0 rfl rfl 2 (by decide) kf_X0_18 (fun _ h => h) rfl rfl rfl (Nat.le_of_ble_eq_true rfl) (Or.inl (fsH (by omega) (by omega))) dX0_judge_87 90 rfl (ws' := courtW E b (updC (updC (updC co 0 (updZ (co 0) 2 (co 0 2 + 1))) 3 (updZ (co 3) k 1)) 4 (updZ (co 4) k 0))) rfl (fun H9 lo9 hzz hM hF h_co => ?_)
          clear hzz
          refine v_iload_n X dX0_judge_90 91 rfl 0 rfl ?_
          refine v_if_eq X (by omega) dX0_judge_91 94 98 rfl (by decide) (fun c_10 => ?_) (fun c_10 => ?_)
          · skip
            refine v_iconst X dX0_judge_98 99 rfl ?_
            subst hQ; exact m_iret X hr hlk hM dX0_judge_99 rfl ⟨rfl, h_co⟩
          · skip
            exfalso; omega
        · skip
          exfalso; omega
      · skip
        exfalso; omega
    · skip
      exfalso; omega
  · skip
    exfalso; omega
def reopenC0 (co : Nat → Int → Int) (k : Int) : Nat → Int → Int := updC (updC (updC co 3 (updZ (co 3) k 0)) 4 (updZ (co 4) k 0)) 5 (updZ (co 5) k (co 5 k + 1))
set_option maxHeartbeats 4000000 in
set_option maxRecDepth 20000 in
theorem c_X0_reopen0 (l : Launch) (E : Nat → Nat → Nat) (b : Nat) (co : Nat → Int → Int) (k : Int) (hO : OkC co) (k0 : 0 ≤ k) (k1 : k < 16) (hg : co 4 k = 0) : Mu l yX0_reopen cX0_reopen 2 (some .int) 2 0 0 E [(b, 28)] [.ref b, .int (zI k)] (fun H => PR E b (courtW E b co) H) (fun rv H => rv = some (.int (zI (co 5 k + 1))) ∧ PR E b (courtW E b (reopenC0 co k)) H) := by
  refine Mu.start (own := RX0) rfl (by decide +kernel) (Nat.le_of_ble_eq_true rfl) ?_
  intro p e s m below meth cd args Q hQ X hr hlk hnm hM hPr
  have h_co := hPr
  refine v_aload_n X dX0_reopen_0 1 rfl 0 rfl ?_
  refine v_iload_n X dX0_reopen_1 2 rfl 1 rfl ?_
  refine v_rdV X hM.C h_co.1 (c_X0_isFoundGuilty l E b co k hO k0 k1) kvX0_isFoundGuilty kiX0_isFoundGuilty kl_X0_209 rfl rfl (As := [.int (zI k)]) rfl rfl rfl dX0_reopen_2 5 rfl ?_
  show V p l e (rmL 2 0 0) s m args below meth cd Q 2 s.heap [] 0 0 5 [(0, .ref b), (1, .int (zI k))] [.int (zI (bz (¬ co 4 k = 0)))]
  refine v_bif_eq X dX0_reopen_5 8 29 rfl (by decide) (fun c_1 => ?_) (fun c_1 => ?_)
  · skip
    refine v_aload_n X dX0_reopen_29 30 rfl 0 rfl ?_
    refine v_getf X hM.C h_co.1 inX0 0 rfl rfl 7 (by decide) kf_X0_39 (fun _ h => h) rfl dX0_reopen_30 33 rfl ?_
    refine v_iload_n X dX0_reopen_33 34 rfl 1 rfl ?_
    refine v_iconst X dX0_reopen_34 35 rfl ?_
    refine v_muV X hM (h_co.1) (c_X6_put l E (b + 7) 16 (co 4) k 0 k0 k1 (by omega)) kvX6_put kiX6_put kl_X0_173 (q0 := 7) rfl rfl (As := [.int (zI k), .int (zI 0)]) rfl rfl rfl dX0_reopen_35 38 rfl (k' := 0) (n' := 0) rfl rfl (fsI (fun q q1 q2 => (Or.inl (fsH (by omega) (by omega))))) (h_co.sub 7 2 rfl (wc := rowW E (b + 7) 16 (co 4)) rfl) (fun rv H2 lo2 hM hF hpo => ?_)
    obtain ⟨rfl, hw_0⟩ := hpo
    have h_co := h_co.join 7 2 rfl hw_0 hF rfl (Nat.le_of_ble_eq_true rfl) (ws' := courtW E b (updC co 4 (updZ (co 4) k 0))) rfl
    show V p l e (rmL 2 0 0) s m args below meth cd Q 2 H2 lo2 0 0 38 [(0, .ref b), (1, .int (zI k))] []
    refine v_aload_n X dX0_reopen_38 39 rfl 0 rfl ?_
    refine v_getf X hM.C h_co.1 inX0 0 rfl rfl 6 (by decide) kf_X0_36 (fun _ h => h) rfl dX0_reopen_39 42 rfl ?_
    refine v_iload_n X dX0_reopen_42 43 rfl 1 rfl ?_
    refine v_iconst X dX0_reopen_43 44 rfl ?_
    refine v_muV X hM (h_co.1) (c_X6_put l E (b + 5) 16 (co 3) k 0 k0 k1 (by omega)) kvX6_put kiX6_put kl_X0_173 (q0 := 5) rfl rfl (As := [.int (zI k), .int (zI 0)]) rfl rfl rfl dX0_reopen_44 47 rfl (k' := 0) (n' := 0) rfl rfl (fsI (fun q q1 q2 => (Or.inl (fsH (by omega) (by omega))))) (h_co.sub 5 2 rfl (wc := rowW E (b + 5) 16 (co 3)) rfl) (fun rv H3 lo3 hM hF hpo => ?_)
    obtain ⟨rfl, hw_0⟩ := hpo
    have h_co := h_co.join 5 2 rfl hw_0 hF rfl (Nat.le_of_ble_eq_true rfl) (ws' := courtW E b (updC (updC co 3 (updZ (co 3) k 0)) 4 (updZ (co 4) k 0))) rfl
    show V p l e (rmL 2 0 0) s m args below meth cd Q 2 H3 lo3 0 0 47 [(0, .ref b), (1, .int (zI k))] []
    refine v_aload_n X dX0_reopen_47 48 rfl 0 rfl ?_
    refine v_getf X hM.C h_co.1 inX0 0 rfl rfl 8 (by decide) kf_X0_42 (fun _ h => h) rfl dX0_reopen_48 51 rfl ?_
    refine v_iload_n X dX0_reopen_51 52 rfl 1 rfl ?_
    refine v_iconst X dX0_reopen_52 53 rfl ?_
    refine v_muV X hM (h_co.1) (c_X6_add l E (b + 9) 16 (co 5) k 1 k0 k1 (by omega)) kvX6_add kiX6_add kl_X0_197 (q0 := 9) rfl rfl (As := [.int (zI k), .int (zI 1)]) rfl rfl rfl dX0_reopen_53 56 rfl (k' := 0) (n' := 0) rfl rfl (fsI (fun q q1 q2 => (Or.inl (fsH (by omega) (by omega))))) (h_co.sub 9 2 rfl (wc := rowW E (b + 9) 16 (co 5)) rfl) (fun rv H4 lo4 hM hF hpo => ?_)
    obtain ⟨rfl, hw_0⟩ := hpo
    have h_co := h_co.join 9 2 rfl hw_0 hF rfl (Nat.le_of_ble_eq_true rfl) (ws' := courtW E b (updC (updC (updC co 3 (updZ (co 3) k 0)) 4 (updZ (co 4) k 0)) 5 (updZ (co 5) k (co 5 k + 1)))) rfl
    show V p l e (rmL 2 0 0) s m args below meth cd Q 2 H4 lo4 0 0 56 [(0, .ref b), (1, .int (zI k))] []
    refine v_aload_n X dX0_reopen_56 57 rfl 0 rfl ?_
    refine v_getf X hM.C h_co.1 inX0 0 rfl rfl 8 (by decide) kf_X0_42 (fun _ h => h) rfl dX0_reopen_57 60 rfl ?_
    refine v_iload_n X dX0_reopen_60 61 rfl 1 rfl ?_
    refine v_rdV X hM.C (PW.part h_co.1 9 2 (wc := rowW E (b + 9) 16 (updZ (co 5) k (co 5 k + 1))) rfl) (c_X6_get l E (b + 9) 16 (updZ (co 5) k (co 5 k + 1)) k k0 k1 (by omega)) kvX6_get kiX6_get kl_X0_157 rfl rfl (As := [.int (zI k)]) rfl rfl rfl dX0_reopen_61 64 rfl ?_
    show V p l e (rmL 2 0 0) s m args below meth cd Q 2 H4 lo4 0 0 64 [(0, .ref b), (1, .int (zI k))] [.int (zI ((updZ (co 5) k (co 5 k + 1)) k))]
    have hb_5 := hO.b5 k
    subst hQ; exact m_iret X hr hlk hM dX0_reopen_64 rfl ⟨(sv (by rw [updZ_at])), h_co⟩
  · skip
    exfalso; omega
def finishC (co : Nat → Int → Int) (k : Int) : Nat → Int → Int := updC co 3 (updZ (co 3) k 2)
set_option maxHeartbeats 4000000 in
set_option maxRecDepth 20000 in
theorem c_X0_finish (l : Launch) (E : Nat → Nat → Nat) (b : Nat) (co : Nat → Int → Int) (k : Int) (hO : OkC co) (k0 : 0 ≤ k) (k1 : k < 16) : Mu l yX0_finish cX0_finish 2 (some .int) 3 0 0 E [(b, 28)] [.ref b, .int (zI k)] (fun H => PR E b (courtW E b co) H) (fun rv H => rv = some (.int (zI (sumZ (fun j => bz (finishC co k 3 j = 2)) (co 0 0).toNat))) ∧ PR E b (courtW E b (finishC co k)) H) := by
  refine Mu.start (own := RX0) rfl (by decide +kernel) (Nat.le_of_ble_eq_true rfl) ?_
  intro p e s m below meth cd args Q hQ X hr hlk hnm hM hPr
  have h_co := hPr
  refine v_aload_n X dX0_finish_0 1 rfl 0 rfl ?_
  refine v_getf X hM.C h_co.1 inX0 0 rfl rfl 6 (by decide) kf_X0_36 (fun _ h => h) rfl dX0_finish_1 4 rfl ?_
  refine v_iload_n X dX0_finish_4 5 rfl 1 rfl ?_
  refine v_iconst X dX0_finish_5 6 rfl ?_
  refine v_muV X hM (h_co.1) (c_X6_put l E (b + 5) 16 (co 3) k 2 k0 k1 (by omega)) kvX6_put kiX6_put kl_X0_173 (q0 := 5) rfl rfl (As := [.int (zI k), .int (zI 2)]) rfl rfl rfl dX0_finish_6 9 rfl (k' := 0) (n' := 0) rfl rfl (fsI (fun q q1 q2 => (Or.inl (fsH (by omega) (by omega))))) (h_co.sub 5 2 rfl (wc := rowW E (b + 5) 16 (co 3)) rfl) (fun rv H1 lo1 hM hF hpo => ?_)
  obtain ⟨rfl, hw_0⟩ := hpo
  have h_co := h_co.join 5 2 rfl hw_0 hF rfl (Nat.le_of_ble_eq_true rfl) (ws' := courtW E b (updC co 3 (updZ (co 3) k 2))) rfl
  show V p l e (rmL 3 0 0) s m args below meth cd Q 2 H1 lo1 0 0 9 [(0, .ref b), (1, .int (zI k))] []
  refine v_aload_n X dX0_finish_9 10 rfl 0 rfl ?_
  refine v_iconst X dX0_finish_10 11 rfl ?_
  refine v_rdV X hM.C h_co.1 (c_X0_countIn l E b (updC co 3 (updZ (co 3) k 2)) 2 (OkC.upd hO (by decide) (by decide) ⟨by decide, by decide⟩) (by omega)) kvX0_countIn kiX0_countIn kl_X0_212 rfl rfl (As := [.int (zI 2)]) rfl rfl rfl dX0_finish_11 14 rfl ?_
  show V p l e (rmL 3 0 0) s m args below meth cd Q 2 H1 lo1 0 0 14 [(0, .ref b), (1, .int (zI k))] [.int (zI (sumZ (fun j => bz ((updZ (co 3) k 2) j = 2)) (co 0 0).toNat))]
  have hb_2 := hO.b0
  have hf_3 := cnt_b (fun j => (updZ (co 3) k 2) j = 2) (co 0 0).toNat
  subst hQ; exact m_iret X hr hlk hM dX0_finish_14 rfl ⟨(sv (by rfl)), h_co⟩

