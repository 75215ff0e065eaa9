/-! the docket: a new case goes in ahead of the first that it comes before -/
def mvG (g : Int → Int) (n pl : Int) : Int → Int := fun p => if pl < p ∧ p ≤ n then g (p - 1) else g p
theorem mvG_lo {g : Int → Int} {n pl p : Int} (h : p ≤ pl) : mvG g n pl p = g p := if_neg (by omega)
theorem mvG_n (g : Int → Int) (n : Int) : mvG g n n = g := by
  funext p
  exact if_neg (by omega)
theorem mvG_s {g : Int → Int} {n pl : Int} (h : pl ≤ n) : updZ (mvG g n pl) pl (g (pl - 1)) = mvG g n (pl - 1) := by
  funext p
  unfold updZ mvG
  by_cases e : p = pl
  · subst e
    rw [if_pos rfl, if_pos (by omega)]
  · rw [if_neg e]
    by_cases q : pl < p ∧ p ≤ n
    · rw [if_pos q, if_pos (by omega)]
    · rw [if_neg q, if_neg (by omega)]
def ipF (co : Nat → Int → Int) (g : Int → Int) (i : Int) : Nat → Nat
  | 0 => 0
  | m + 1 => if cbC co i (g (m : Int)) then ipF co g i m else m + 1
theorem ipF_s (co : Nat → Int → Int) (g : Int → Int) (i : Int) (m : Nat) : ipF co g i (m + 1) = if cbC co i (g (m : Int)) then ipF co g i m else m + 1 := rfl
theorem ipF_le (co : Nat → Int → Int) (g : Int → Int) (i : Int) : ∀ m, ipF co g i m ≤ m
  | 0 => Nat.le_refl 0
  | m + 1 => by
    have := ipF_le co g i m
    rw [ipF_s]
    split <;> omega
def insG (co : Nat → Int → Int) (g : Int → Int) (n : Nat) (i : Int) : Int → Int := updZ (mvG g n (ipF co g i n)) (ipF co g i n) i
def dkM (co : Nat → Int → Int) : Nat → Nat
  | 0 => 0
  | i + 1 => if co 3 (i : Int) = 0 then dkM co i + 1 else dkM co i
def dkG (co : Nat → Int → Int) (g0 : Int → Int) : Nat → Int → Int
  | 0 => g0
  | i + 1 => if co 3 (i : Int) = 0 then insG co (dkG co g0 i) (dkM co i) i else dkG co g0 i
theorem dkM_s (co : Nat → Int → Int) (i : Nat) : dkM co (i + 1) = if co 3 (i : Int) = 0 then dkM co i + 1 else dkM co i := rfl
theorem dkG_s (co : Nat → Int → Int) (g0 : Int → Int) (i : Nat) : dkG co g0 (i + 1) = if co 3 (i : Int) = 0 then insG co (dkG co g0 i) (dkM co i) i else dkG co g0 i := rfl
theorem dkM_le (co : Nat → Int → Int) : ∀ i, dkM co i ≤ i
  | 0 => Nat.le_refl 0
  | i + 1 => by
    have := dkM_le co i
    rw [dkM_s]
    split <;> omega
theorem insG_b {co : Nat → Int → Int} {g : Int → Int} {n : Nat} {i N : Int} (hi : 0 ≤ i ∧ i < N) (h : ∀ p : Int, 0 ≤ p → p < n → 0 ≤ g p ∧ g p < N) : ∀ p : Int, 0 ≤ p → p < ((n + 1 : Nat) : Int) → 0 ≤ insG co g n i p ∧ insG co g n i p < N := by
  intro p h0 h1
  unfold insG updZ mvG
  split
  · exact hi
  · have hl := ipF_le co g i n
    split
    · exact h _ (by omega) (by omega)
    · exact h _ h0 (by omega)
theorem dkG_b (co : Nat → Int → Int) (g0 : Int → Int) : ∀ (i : Nat) (p : Int), 0 ≤ p → p < (dkM co i : Int) → 0 ≤ dkG co g0 i p ∧ dkG co g0 i p < (i : Int)
  | 0, p, h0, h1 => by unfold dkM at h1; omega
  | i + 1, p, h0, h1 => by
    rw [dkG_s]
    rw [dkM_s] at h1
    split
    · rename_i e
      rw [if_pos e] at h1
      exact insG_b (N := ((i + 1 : Nat) : Int)) (by omega) (fun q a b => by
        have := dkG_b co g0 i q a b
        omega) p h0 h1
    · rename_i e
      rw [if_neg e] at h1
      have := dkG_b co g0 i p h0 h1
      omega
set_option maxHeartbeats 4000000 in
set_option maxRecDepth 20000 in
theorem c_X1_init (l : Launch) (E : Nat → Nat → Nat) (d : Nat) : Mu l yX1_init cX1_init 1 none 2 2 17 E [(d, 1)] [.ref d] (fun H => PR E d [(d, .inr (5, [.null, .int 0]))] H ∧ H.size = d + 1) (fun rv H => rv = none ∧ PR E d (docketW E d c0) H ∧ H.size = d + 3) := by
  refine Mu.start (own := RX1) rfl (by decide +kernel) (Nat.le_of_ble_eq_true rfl) ?_
  intro p e s m below meth cd args Q hQ X hr hlk hnm hM hPr
  obtain ⟨h_dk, hz⟩ := hPr
  have hz0 := hz
  refine v_aload_n X dX1_init_0 1 rfl 0 rfl ?_
  refine v_objinit X kl_X1_3 dX1_init_1 4 rfl rfl ?_
  refine v_aload_n X dX1_init_4 5 rfl 0 rfl ?_
  refine v_new (ci := 9) X hM ftX6 kc_X1_9 kins_X6 kini_CaseManager_Row rfl dfX6 rfl dX1_init_5 8 rfl (k' := 1) (n' := 1) rfl rfl (fun o H1 ho hz1 hM hF h_new => ?_)
  obtain rfl : o = d + 1 := ho.trans hz
  replace hz : H1.size = d + 2 := hz1
  clear ho hz1
  have h_n_2 : PR E (d + 1) [(d + 1, .inr (9, [.null]))] H1 := h_new
  replace h_dk := h_dk.kept hF 1 rfl (fun q _ _ h => h.elim)
  refine v_dup X dX1_init_8 9 rfl rfl ?_
  refine v_bipush X dX1_init_9 11 rfl rfl ?_
  refine v_muI X hM (c_X6_init16 l E (d + 1)) rfl kvX6_init kiiX6_init rfl kl_X1_11 (As := [.int (zI 16)]) rfl rfl rfl dX1_init_11 14 rfl (k' := 2) (n' := 17) rfl rfl (fsI (fun q q1 q2 => (Or.inr (by omega)))) ⟨h_n_2, (by omega)⟩ (fun rv H3 lo3 hM hF hpo => ?_)
  obtain ⟨rfl, hw_0, hz9⟩ := hpo
  clear hz
  have hz := hz9; clear hz9
  replace hz : H3.size = d + 3 := hz
  have h_n_2 : PR E (d + 1) (rowW E (d + 1) 16 (fun _ => 0)) H3 := hw_0
  replace h_dk := h_dk.kept hF 1 rfl (fsd (by omega))
  have h_dk : PR E d [(d, .inr (5, [.null, .int 0])), (d + 1, .inr (9, [.ref (d + 2)])), (d + 2, .inl (E 102 0, 16, .inl (zA (fun _ => 0))))] H3 := h_dk.app2 1 rfl rfl h_n_2 rfl
  show V p l e (rmL 2 2 17) s m args below meth cd Q 1 H3 lo3 2 17 14 [(0, .ref d)] [.ref (d + 1), .ref d]
  refine v_putF X hM h_dk ftX1 0 rfl rfl 0 (by decide) kf_X1_14 (fun _ h => h) rfl hnm rfl rfl rfl (Nat.le_of_ble_eq_true rfl) (Or.inl (fsH (by omega) (by omega))) dX1_init_14 17 rfl (ws' := [(d, .inr (5, [.ref (d + 1), .int 0])), (d + 1, .inr (9, [.ref (d + 2)])), (d + 2, .inl (E 102 0, 16, .inl (zA (fun _ => 0))))]) rfl (fun H4 lo4 hzz hM hF h_dk => ?_)
  replace hz : H4.size = d + 3 := hzz.trans hz
  clear hzz
  refine v_aload_n X dX1_init_17 18 rfl 0 rfl ?_
  refine v_iconst X dX1_init_18 19 rfl ?_
  refine v_putf X hM h_dk ftX1 0 rfl rfl 1 (by decide) kf_X1_20 (fun _ h => h) rfl rfl rfl (Nat.le_of_ble_eq_true rfl) (Or.inl (fsH (by omega) (by omega))) dX1_init_19 22 rfl (ws' := [(d, .inr (5, [.ref (d + 1), .int (zI 0)])), (d + 1, .inr (9, [.ref (d + 2)])), (d + 2, .inl (E 102 0, 16, .inl (zA (fun _ => 0))))]) rfl (fun H5 lo5 hzz hM hF h_dk => ?_)
  replace hz : H5.size = d + 3 := hzz.trans hz
  clear hzz
  subst hQ; exact m_vret X hr hlk hM dX1_init_22 rfl ⟨rfl, (PR.to h_dk rfl), (by omega)⟩
set_option maxHeartbeats 4000000 in
set_option maxRecDepth 20000 in
theorem c_X1_insert (l : Launch) (E : Nat → Nat → Nat) (d : Nat) (dk : Nat → Int → Int) (b : Nat) (co : Nat → Int → Int) (n : Nat) (i : Int) (hO : OkC co) (i0 : 0 ≤ i) (i1 : i < 16) (hn : dk 0 1 = (n : Int)) (hn2 : n < 16) (hgo : ∀ p : Int, 0 ≤ p → p < (n : Int) → 0 ≤ dk 1 p ∧ dk 1 p < 16) (hd_dk_co : d + 3 ≤ b ∨ b + 28 ≤ d) : Mu l yX1_insert cX1_insert 4 none 2 0 0 E [(d, 3)] [.ref d, .int (zI i), .ref b] (fun H => PR E d (docketW E d dk) H ∧ PR E b (courtW E b co) H) (fun rv H => rv = none ∧ PR E d (docketW E d (updC (updC dk 0 (updZ (dk 0) 1 (dk 0 1 + 1))) 1 (insG co (dk 1) n i))) H) := by
  refine Mu.start (own := RX1) rfl (by decide +kernel) (Nat.le_of_ble_eq_true rfl) ?_
  intro p e s m below meth cd args Q hQ X hr hlk hnm hM hPr
  obtain ⟨h_dk, h_co⟩ := hPr
  refine v_aload_n X dX1_insert_0 1 rfl 0 rfl ?_
  refine v_getf X hM.C h_dk.1 inX1 0 rfl rfl 1 (by decide) kf_X1_20 (fun _ h => h) rfl dX1_insert_1 4 rfl ?_
  show V p l e (rmL 2 0 0) s m args below meth cd Q 4 s.heap [] 0 0 4 [(0, .ref d), (1, .int (zI i)), (2, .ref b)] [.int (zI (dk 0 1))]
  refine v_istore_n X dX1_insert_4 5 rfl rfl (by decide) (L' := [(3, .int (zI (dk 0 1))), (0, .ref d), (1, .int (zI i)), (2, .ref b)]) rfl ?_
  refine V_L (L' := [(3, .int (zI ((n : Int) - 0))), (0, .ref d), (1, .int (zI i)), (2, .ref b)]) (LC (vz (by rw [hn]; omega)) (LC rfl (LC rfl (LC rfl rfl)))) ?_
  refine up_loop n (P := fun (j : Nat) => (ipF co (dk 1) i (n - j) = ipF co (dk 1) i n) → ∀ (H : Heap) (lo : List Loc), MS E [(d, 3)] s H lo → PR E d (docketW E d (updC dk 1 (mvG (dk 1) n ((n : Int) - (j : Int))))) H → PR E b (courtW E b co) H → V p l e (rmL 2 0 0) s m args below meth cd Q 4 H lo 0 0 5 [(3, .int (zI ((n : Int) - (j : Int)))), (0, .ref d), (1, .int (zI i)), (2, .ref b)] []) (fun j hi_j ih_j hip H1 lo1 hM h_dk h_co => ?_) rfl _ _ hM (PR.to h_dk (by rw [show (n : Int) - ((0 : Nat) : Int) = (n : Int) by omega, mvG_n]; rfl)) h_co
  refine v_iload_n X dX1_insert_5 6 rfl 0 rfl ?_
  refine v_if_le X (by omega) dX1_insert_6 9 51 rfl (by decide) (fun c_2 => ?_) (fun c_2 => ?_)
  · skip
    refine v_aload_n X dX1_insert_51 52 rfl 1 rfl ?_
    refine v_getf X hM.C h_dk.1 inX1 0 rfl rfl 0 (by decide) kf_X1_14 (fun _ h => h) rfl dX1_insert_52 55 rfl ?_
    refine v_iload_n X dX1_insert_55 56 rfl 0 rfl ?_
    refine v_iload_n X dX1_insert_56 57 rfl 2 rfl ?_
    refine v_muV X hM (h_dk.1) (c_X6_put l E (d + 1) 16 (mvG (dk 1) n ((n : Int) - (j : Int))) ((n : Int) - (j : Int)) i (by omega) (by omega) (by omega)) kvX6_put kiX6_put kl_X1_44 (q0 := 1) rfl rfl (As := [.int (zI ((n : Int) - (j : Int))), .int (zI i)]) rfl rfl rfl dX1_insert_57 60 rfl (k' := 0) (n' := 0) rfl rfl (fsI (fun q q1 q2 => (Or.inl (fsH (by omega) (by omega))))) (h_dk.sub 1 2 rfl (wc := rowW E (d + 1) 16 (mvG (dk 1) n ((n : Int) - (j : Int)))) rfl) (fun rv H3 lo3 hM hF hpo => ?_)
    obtain ⟨rfl, hw_0⟩ := hpo
    have h_dk := h_dk.join 1 2 rfl hw_0 hF rfl (Nat.le_of_ble_eq_true rfl) (ws' := docketW E d (updC dk 1 (updZ (mvG (dk 1) n ((n : Int) - (j : Int))) ((n : Int) - (j : Int)) i))) rfl
    replace h_co := h_co.kept hF 28 rfl (fsd (by omega))
    show V p l e (rmL 2 0 0) s m args below meth cd Q 4 H3 lo3 0 0 60 [(3, .int (zI ((n : Int) - (j : Int)))), (0, .ref d), (1, .int (zI i)), (2, .ref b)] []
    refine v_aload_n X dX1_insert_60 61 rfl 1 rfl ?_
    refine v_dup X dX1_insert_61 62 rfl rfl ?_
    refine v_getf X hM.C h_dk.1 inX1 0 rfl rfl 1 (by decide) kf_X1_20 (fun _ h => h) rfl dX1_insert_62 65 rfl ?_
    show V p l e (rmL 2 0 0) s m args below meth cd Q 4 H3 lo3 0 0 65 [(3, .int (zI ((n : Int) - (j : Int)))), (0, .ref d), (1, .int (zI i)), (2, .ref b)] [.int (zI (dk 0 1)), .ref d]
    refine v_iconst X dX1_insert_65 66 rfl ?_
    refine v_iadd X dX1_insert_66 67 rfl ?_
    refine v_putf X hM h_dk ftX1 0 rfl rfl 1 (by decide) kf_X1_20 (fun _ h => h) rfl rfl rfl (Nat.le_of_ble_eq_true rfl) (Or.inl (fsH (by omega) (by omega))) dX1_insert_67 70 rfl (ws' := docketW E d (updC (updC dk 0 (updZ (dk 0) 1 (dk 0 1 + 1))) 1 (updZ (mvG (dk 1) n ((n : Int) - (j : Int))) ((n : Int) - (j : Int)) i))) rfl (fun H4 lo4 hzz hM hF h_dk => ?_)
    clear hzz
    replace h_co := h_co.kept hF 28 rfl (fsd (by omega))
    have hpl : (ipF co (dk 1) i n : Int) = (n : Int) - (j : Int) := by (rw [← hip]; first | (rw [show n - j = 0 by omega]; show ((0 : Nat) : Int) = _; omega) | (rw [show n - j = (n - (j + 1)) + 1 by omega, ipF_s, if_neg (by rw [show ((n - (j + 1) : Nat) : Int) = (n : Int) - (j : Int) - 1 by omega]; assumption)]; omega))
    subst hQ; exact m_vret X hr hlk hM dX1_insert_70 rfl ⟨rfl, (PR.to h_dk (by unfold insG; rw [hpl]))⟩
  · skip
    refine v_aload_n X dX1_insert_9 10 rfl 3 rfl ?_
    refine v_iload_n X dX1_insert_10 11 rfl 2 rfl ?_
    refine v_aload_n X dX1_insert_11 12 rfl 1 rfl ?_
    refine v_getf X hM.C h_dk.1 inX1 0 rfl rfl 0 (by decide) kf_X1_14 (fun _ h => h) rfl dX1_insert_12 15 rfl ?_
    refine v_iload_n X dX1_insert_15 16 rfl 0 rfl ?_
    refine v_iconst X dX1_insert_16 17 rfl ?_
    refine v_isub X dX1_insert_17 18 rfl ?_
    refine v_rdV X hM.C (PW.part h_dk.1 1 2 (wc := rowW E (d + 1) 16 (mvG (dk 1) n ((n : Int) - (j : Int)))) rfl) (c_X6_get l E (d + 1) 16 (mvG (dk 1) n ((n : Int) - (j : Int))) ((n : Int) - (j : Int) - 1) (by omega) (by omega) (by omega)) kvX6_get kiX6_get kl_X1_37 rfl rfl (As := [.int (zI ((n : Int) - (j : Int) - 1))]) rfl rfl rfl dX1_insert_18 21 rfl ?_
    show V p l e (rmL 2 0 0) s m args below meth cd Q 4 H1 lo1 0 0 21 [(3, .int (zI ((n : Int) - (j : Int)))), (0, .ref d), (1, .int (zI i)), (2, .ref b)] [.int (zI ((mvG (dk 1) n ((n : Int) - (j : Int))) ((n : Int) - (j : Int) - 1))), .int (zI i), .ref b]
    refine V_S (st' := [.int (zI (dk 1 ((n : Int) - (j : Int) - 1))), .int (zI i), .ref b]) (by rw [mvG_lo (by omega)]) ?_
    have hgv := hgo ((n : Int) - (j : Int) - 1) (by omega) (by omega)
    refine v_rdV X hM.C h_co.1 (c_X0_comesBefore l E b co i (dk 1 ((n : Int) - (j : Int) - 1)) hO i0 i1 (by omega) (by omega)) kvX0_comesBefore kiX0_comesBefore kl_X1_41 rfl rfl (As := [.int (zI i), .int (zI (dk 1 ((n : Int) - (j : Int) - 1)))]) rfl rfl rfl dX1_insert_21 24 rfl ?_
    show V p l e (rmL 2 0 0) s m args below meth cd Q 4 H1 lo1 0 0 24 [(3, .int (zI ((n : Int) - (j : Int)))), (0, .ref d), (1, .int (zI i)), (2, .ref b)] [.int (zI (bz (cbC co i (dk 1 ((n : Int) - (j : Int) - 1)))))]
    refine v_bif_eq X dX1_insert_24 27 51 rfl (by decide) (fun c_5 => ?_) (fun c_5 => ?_)
    · skip
      refine v_aload_n X dX1_insert_51 52 rfl 1 rfl ?_
      refine v_getf X hM.C h_dk.1 inX1 0 rfl rfl 0 (by decide) kf_X1_14 (fun _ h => h) rfl dX1_insert_52 55 rfl ?_
      refine v_iload_n X dX1_insert_55 56 rfl 0 rfl ?_
      refine v_iload_n X dX1_insert_56 57 rfl 2 rfl ?_
      refine v_muV X hM (h_dk.1) (c_X6_put l E (d + 1) 16 (mvG (dk 1) n ((n : Int) - (j : Int))) ((n : Int) - (j : Int)) i (by omega) (by omega) (by omega)) kvX6_put kiX6_put kl_X1_44 (q0 := 1) rfl rfl (As := [.int (zI ((n : Int) - (j : Int))), .int (zI i)]) rfl rfl rfl dX1_insert_57 60 rfl (k' := 0) (n' := 0) rfl rfl (fsI (fun q q1 q2 => (Or.inl (fsH (by omega) (by omega))))) (h_dk.sub 1 2 rfl (wc := rowW E (d + 1) 16 (mvG (dk 1) n ((n : Int) - (j : Int)))) rfl) (fun rv H6 lo6 hM hF hpo => ?_)
      obtain ⟨rfl, hw_0⟩ := hpo
      have h_dk := h_dk.join 1 2 rfl hw_0 hF rfl (Nat.le_of_ble_eq_true rfl) (ws' := docketW E d (updC dk 1 (updZ (mvG (dk 1) n ((n : Int) - (j : Int))) ((n : Int) - (j : Int)) i))) rfl
      replace h_co := h_co.kept hF 28 rfl (fsd (by omega))
      show V p l e (rmL 2 0 0) s m args below meth cd Q 4 H6 lo6 0 0 60 [(3, .int (zI ((n : Int) - (j : Int)))), (0, .ref d), (1, .int (zI i)), (2, .ref b)] []
      refine v_aload_n X dX1_insert_60 61 rfl 1 rfl ?_
      refine v_dup X dX1_insert_61 62 rfl rfl ?_
      refine v_getf X hM.C h_dk.1 inX1 0 rfl rfl 1 (by decide) kf_X1_20 (fun _ h => h) rfl dX1_insert_62 65 rfl ?_
      show V p l e (rmL 2 0 0) s m args below meth cd Q 4 H6 lo6 0 0 65 [(3, .int (zI ((n : Int) - (j : Int)))), (0, .ref d), (1, .int (zI i)), (2, .ref b)] [.int (zI (dk 0 1)), .ref d]
      refine v_iconst X dX1_insert_65 66 rfl ?_
      refine v_iadd X dX1_insert_66 67 rfl ?_
      refine v_putf X hM h_dk ftX1 0 rfl rfl 1 (by decide) kf_X1_20 (fun _ h => h) rfl rfl rfl (Nat.le_of_ble_eq_true rfl) (Or.inl (fsH (by omega) (by omega))) dX1_insert_67 70 rfl (ws' := docketW E d (updC (updC dk 0 (updZ (dk 0) 1 (dk 0 1 + 1))) 1 (updZ (mvG (dk 1) n ((n : Int) - (j : Int))) ((n : Int) - (j : Int)) i))) rfl (fun H7 lo7 hzz hM hF h_dk => ?_)
      clear hzz
      replace h_co := h_co.kept hF 28 rfl (fsd (by omega))
      have hpl : (ipF co (dk 1) i n : Int) = (n : Int) - (j : Int) := by (rw [← hip]; first | (rw [show n - j = 0 by omega]; show ((0 : Nat) : Int) = _; omega) | (rw [show n - j = (n - (j + 1)) + 1 by omega, ipF_s, if_neg (by rw [show ((n - (j + 1) : Nat) : Int) = (n : Int) - (j : Int) - 1 by omega]; assumption)]; omega))
      subst hQ; exact m_vret X hr hlk hM dX1_insert_70 rfl ⟨rfl, (PR.to h_dk (by unfold insG; rw [hpl]))⟩
    · skip
      refine v_aload_n X dX1_insert_27 28 rfl 1 rfl ?_
      refine v_getf X hM.C h_dk.1 inX1 0 rfl rfl 0 (by decide) kf_X1_14 (fun _ h => h) rfl dX1_insert_28 31 rfl ?_
      refine v_iload_n X dX1_insert_31 32 rfl 0 rfl ?_
      refine v_aload_n X dX1_insert_32 33 rfl 1 rfl ?_
      refine v_getf X hM.C h_dk.1 inX1 0 rfl rfl 0 (by decide) kf_X1_14 (fun _ h => h) rfl dX1_insert_33 36 rfl ?_
      refine v_iload_n X dX1_insert_36 37 rfl 0 rfl ?_
      refine v_iconst X dX1_insert_37 38 rfl ?_
      refine v_isub X dX1_insert_38 39 rfl ?_
      refine v_rdV X hM.C (PW.part h_dk.1 1 2 (wc := rowW E (d + 1) 16 (mvG (dk 1) n ((n : Int) - (j : Int)))) rfl) (c_X6_get l E (d + 1) 16 (mvG (dk 1) n ((n : Int) - (j : Int))) ((n : Int) - (j : Int) - 1) (by omega) (by omega) (by omega)) kvX6_get kiX6_get kl_X1_37 rfl rfl (As := [.int (zI ((n : Int) - (j : Int) - 1))]) rfl rfl rfl dX1_insert_39 42 rfl ?_
      show V p l e (rmL 2 0 0) s m args below meth cd Q 4 H1 lo1 0 0 42 [(3, .int (zI ((n : Int) - (j : Int)))), (0, .ref d), (1, .int (zI i)), (2, .ref b)] [.int (zI ((mvG (dk 1) n ((n : Int) - (j : Int))) ((n : Int) - (j : Int) - 1))), .int (zI ((n : Int) - (j : Int))), .ref (d + 1)]
      refine V_S (st' := [.int (zI (dk 1 ((n : Int) - (j : Int) - 1))), .int (zI ((n : Int) - (j : Int))), .ref (d + 1)]) (by rw [mvG_lo (by omega)]) ?_
      refine v_muV X hM (h_dk.1) (c_X6_put l E (d + 1) 16 (mvG (dk 1) n ((n : Int) - (j : Int))) ((n : Int) - (j : Int)) (dk 1 ((n : Int) - (j : Int) - 1)) (by omega) (by omega) (by omega)) kvX6_put kiX6_put kl_X1_44 (q0 := 1) rfl rfl (As := [.int (zI ((n : Int) - (j : Int))), .int (zI (dk 1 ((n : Int) - (j : Int) - 1)))]) rfl rfl rfl dX1_insert_42 45 rfl (k' := 0) (n' := 0) rfl rfl (fsI (fun q q1 q2 => (Or.inl (fsH (by omega) (by omega))))) (h_dk.sub 1 2 rfl (wc := rowW E (d + 1) 16 (mvG (dk 1) n ((n : Int) - (j : Int)))) rfl) (fun rv H8 lo8 hM hF hpo => ?_)
      obtain ⟨rfl, hw_0⟩ := hpo
      have h_dk := h_dk.join 1 2 rfl hw_0 hF rfl (Nat.le_of_ble_eq_true rfl) (ws' := docketW E d (updC dk 1 (updZ (mvG (dk 1) n ((n : Int) - (j : Int))) ((n : Int) - (j : Int)) (dk 1 ((n : Int) - (j : Int) - 1))))) rfl
      replace h_co := h_co.kept hF 28 rfl (fsd (by omega))
      show V p l e (rmL 2 0 0) s m args below meth cd Q 4 H8 lo8 0 0 45 [(3, .int (zI ((n : Int) - (j : Int)))), (0, .ref d), (1, .int (zI i)), (2, .ref b)] []
      refine v_iinc X dX1_insert_45 48 rfl 0 rfl (by decide) (L' := [(3, .int (zI ((n : Int) - (j : Int) + (-1)))), (0, .ref d), (1, .int (zI i)), (2, .ref b)]) rfl ?_
      refine v_goto X dX1_insert_48 5 (by decide) ?_
      exact V_L (L' := [(3, .int (zI ((n : Int) - ((j + 1 : Nat) : Int)))), (0, .ref d), (1, .int (zI i)), (2, .ref b)]) (LC (vz (by omega)) (LC rfl (LC rfl (LC rfl rfl)))) (ih_j (by omega) (by rw [← hip, show n - j = (n - (j + 1)) + 1 by omega, ipF_s, if_pos (by rw [show ((n - (j + 1) : Nat) : Int) = (n : Int) - (j : Int) - 1 by omega]; assumption)]) _ _ hM (PR.to h_dk (by rw [mvG_s (by omega)]; first | done | rw [show (n : Int) - (j : Int) - 1 = (n : Int) - ((j + 1 : Nat) : Int) by omega])) h_co)
set_option maxHeartbeats 4000000 in
set_option maxRecDepth 20000 in
theorem c_X1_fill (l : Launch) (E : Nat → Nat → Nat) (d : Nat) (dk : Nat → Int → Int) (b : Nat) (co : Nat → Int → Int) (hO : OkC co) (hd_dk_co : d + 3 ≤ b ∨ b + 28 ≤ d) : Mu l yX1_fill cX1_fill 3 none 3 0 0 E [(d, 3)] [.ref d, .ref b] (fun H => PR E d (docketW E d dk) H ∧ PR E b (courtW E b co) H) (fun rv H => rv = none ∧ PR E d (docketW E d (updC (updC dk 0 (updZ (dk 0) 1 (dkM co (co 0 0).toNat : Int))) 1 (dkG co (dk 1) (co 0 0).toNat))) H) := by
  refine Mu.start (own := RX1) rfl (by decide +kernel) (Nat.le_of_ble_eq_true rfl) ?_
  intro p e s m below meth cd args Q hQ X hr hlk hnm hM hPr
  obtain ⟨h_dk, h_co⟩ := hPr
  refine v_aload_n X dX1_fill_0 1 rfl 0 rfl ?_
  refine v_iconst X dX1_fill_1 2 rfl ?_
  refine v_putf X hM h_dk ftX1 0 rfl rfl 1 (by decide) kf_X1_20 (fun _ h => h) rfl rfl rfl (Nat.le_of_ble_eq_true rfl) (Or.inl (fsH (by omega) (by omega))) dX1_fill_2 5 rfl (ws' := docketW E d (updC dk 0 (updZ (dk 0) 1 0))) rfl (fun H1 lo1 hzz hM hF h_dk => ?_)
  clear hzz
  replace h_co := h_co.kept hF 28 rfl (fsd (by omega))
  refine v_iconst X dX1_fill_5 6 rfl ?_
  refine v_istore_n X dX1_fill_6 7 rfl rfl (by decide) (L' := [(2, .int (zI 0)), (0, .ref d), (1, .ref b)]) rfl ?_
  refine V_L (L' := [(2, .int (zI 0)), (0, .ref d), (1, .ref b)]) (LC rfl (LC rfl (LC rfl rfl))) ?_
  refine up_loop ((co 0 0).toNat) (P := fun (i : Nat) => ∀ (H : Heap) (lo : List Loc), MS E [(d, 3)] s H lo → PR E d (docketW E d (updC (updC dk 0 (updZ (dk 0) 1 (dkM co i : Int))) 1 (dkG co (dk 1) i))) H → PR E b (courtW E b co) H → V p l e (rmL 3 0 0) s m args below meth cd Q 3 H lo 0 0 7 [(2, .int (zI (i : Int))), (0, .ref d), (1, .ref b)] []) (fun i hi_i ih_i H2 lo2 hM h_dk h_co => ?_) _ _ hM (PR.to h_dk (by rfl)) h_co
  have hml := dkM_le co i
  have hgb := dkG_b co (dk 1) i
  refine v_iload_n X dX1_fill_7 8 rfl 0 rfl ?_
  refine v_aload_n X dX1_fill_8 9 rfl 2 rfl ?_
  refine v_getfN X hM.C h_co.1 inX0 0 rfl rfl 0 (by decide) kfn_X1_24 (fun _ h => h) rfl dX1_fill_9 12 rfl ?_
  show V p l e (rmL 3 0 0) s m args below meth cd Q 3 H2 lo2 0 0 12 [(2, .int (zI (i : Int))), (0, .ref d), (1, .ref b)] [.int (zI (co 0 0)), .int (zI (i : Int))]
  have hb_4 := hO.b0
  refine v_icmp_ge X (by omega) (by omega) dX1_fill_12 15 36 rfl (by decide) (fun c_3 => ?_) (fun c_3 => ?_)
  · skip
    subst hQ; exact m_vret X hr hlk hM dX1_fill_36 rfl ⟨rfl, (PR.to h_dk (by rw [show i = (co 0 0).toNat by omega]))⟩
  · skip
    refine v_aload_n X dX1_fill_15 16 rfl 2 rfl ?_
    refine v_iconst X dX1_fill_16 17 rfl ?_
    refine v_iload_n X dX1_fill_17 18 rfl 0 rfl ?_
    refine v_rdV X hM.C h_co.1 (c_X0_isIn l E b co 0 (i : Int) hO (by omega) (by omega) (by omega)) kvX0_isIn kiX0_isIn kl_X1_29 rfl rfl (As := [.int (zI 0), .int (zI (i : Int))]) rfl rfl rfl dX1_fill_18 21 rfl ?_
    show V p l e (rmL 3 0 0) s m args below meth cd Q 3 H2 lo2 0 0 21 [(2, .int (zI (i : Int))), (0, .ref d), (1, .ref b)] [.int (zI (bz (co 3 (i : Int) = 0)))]
    refine v_bif_eq X dX1_fill_21 24 30 rfl (by decide) (fun c_5 => ?_) (fun c_5 => ?_)
    · skip
      refine v_iinc X dX1_fill_30 33 rfl 0 rfl (by decide) (L' := [(2, .int (zI ((i : Int) + 1))), (0, .ref d), (1, .ref b)]) rfl ?_
      refine v_goto X dX1_fill_33 7 (by decide) ?_
      exact V_L (L' := [(2, .int (zI ((i + 1 : Nat) : Int))), (0, .ref d), (1, .ref b)]) (LC (vz (by omega)) (LC rfl (LC rfl rfl))) (ih_i (by omega) _ _ hM (PR.to h_dk (by rw [dkM_s, dkG_s]; first | (rw [if_pos (by assumption), if_pos (by assumption)]; rfl) | (rw [if_neg (by assumption), if_neg (by assumption)]))) h_co)
    · skip
      refine v_aload_n X dX1_fill_24 25 rfl 1 rfl ?_
      refine v_iload_n X dX1_fill_25 26 rfl 0 rfl ?_
      refine v_aload_n X dX1_fill_26 27 rfl 2 rfl ?_
      refine v_muV X hM (h_dk.1) (c_X1_insert l E d (updC (updC dk 0 (updZ (dk 0) 1 (dkM co i : Int))) 1 (dkG co (dk 1) i)) b co (dkM co i) (i : Int) hO (by omega) (by omega) rfl (by omega) (fun p a b => ⟨(hgb p a b).1, Int.lt_of_lt_of_le (hgb p a b).2 (by omega)⟩) hd_dk_co) kvX1_insert kiX1_insert kl_X1_33 (q0 := 0) rfl rfl (As := [.int (zI (i : Int)), .ref b]) rfl rfl rfl dX1_fill_27 30 rfl (k' := 0) (n' := 0) rfl rfl (fsI (fun q q1 q2 => (Or.inl (fsH (by omega) (by omega))))) ⟨h_dk, h_co⟩ (fun rv H6 lo6 hM hF hpo => ?_)
      obtain ⟨rfl, hw_0⟩ := hpo
      have h_dk : PR E d (docketW E d (updC (updC dk 0 (updZ (dk 0) 1 ((dkM co i : Int) + 1))) 1 (insG co ((dkG co (dk 1) i)) (dkM co i) (i : Int)))) H6 := hw_0
      replace h_co := h_co.kept hF 28 rfl (fsd (by omega))
      show V p l e (rmL 3 0 0) s m args below meth cd Q 3 H6 lo6 0 0 30 [(2, .int (zI (i : Int))), (0, .ref d), (1, .ref b)] []
      refine v_iinc X dX1_fill_30 33 rfl 0 rfl (by decide) (L' := [(2, .int (zI ((i : Int) + 1))), (0, .ref d), (1, .ref b)]) rfl ?_
      refine v_goto X dX1_fill_33 7 (by decide) ?_
      exact V_L (L' := [(2, .int (zI ((i + 1 : Nat) : Int))), (0, .ref d), (1, .ref b)]) (LC (vz (by omega)) (LC rfl (LC rfl rfl))) (ih_i (by omega) _ _ hM (PR.to h_dk (by rw [dkM_s, dkG_s]; first | (rw [if_pos (by assumption), if_pos (by assumption)]; rfl) | (rw [if_neg (by assumption), if_neg (by assumption)]))) h_co)
set_option maxHeartbeats 4000000 in
set_option maxRecDepth 20000 in
theorem c_X1_holdsAt (l : Launch) (E : Nat → Nat → Nat) (d : Nat) (dk : Nat → Int → Int) (x : Int) (k : Int) (n : Nat) (hn : dk 0 1 = (n : Int)) (hn2 : n ≤ 16) (x0 : 0 ≤ x) (x1 : x ≤ 16) (hk : Rg k) (hgo : ∀ p : Int, 0 ≤ p → p < (n : Int) → 0 ≤ dk 1 p ∧ dk 1 p < 16) : Rd l yX1_holdsAt cX1_holdsAt 3 (some .boolean) 1 E [.ref d, .int (zI x), .int (zI k)] (docketW E d dk) (some (.int (zI (bz (x < (n : Int) ∧ dk 1 x = k))))) := by
  refine Rd.start (own := RX1) rfl (by decide +kernel) (Nat.le_of_ble_eq_true rfl) ?_
  intro p e s m below meth cd args Q hQ X hr hlk hC hP
  have h_dk := hP
  refine v_iload_n X dX1_holdsAt_0 1 rfl 1 rfl ?_
  refine v_aload_n X dX1_holdsAt_1 2 rfl 0 rfl ?_
  refine v_getf X hC h_dk inX1 0 rfl rfl 1 (by decide) kf_X1_20 (fun _ h => h) rfl dX1_holdsAt_2 5 rfl ?_
  show V p l e (rmL 1 0 0) s m args below meth cd Q 3 s.heap [] 0 0 5 [(0, .ref d), (1, .int (zI x)), (2, .int (zI k))] [.int (zI (dk 0 1)), .int (zI x)]
  refine v_icmp_ge X (by omega) (by omega) dX1_holdsAt_5 8 24 rfl (by decide) (fun c_1 => ?_) (fun c_1 => ?_)
  · skip
    refine v_iconst X dX1_holdsAt_24 25 rfl ?_
    subst hQ; exact v_zret0 X hr hlk dX1_holdsAt_25 (bz_f (by omega))
  · skip
    refine v_aload_n X dX1_holdsAt_8 9 rfl 0 rfl ?_
    refine v_getf X hC h_dk inX1 0 rfl rfl 0 (by decide) kf_X1_14 (fun _ h => h) rfl dX1_holdsAt_9 12 rfl ?_
    refine v_iload_n X dX1_holdsAt_12 13 rfl 1 rfl ?_
    refine v_rdV X hC (PW.part h_dk 1 2 (wc := rowW E (d + 1) 16 (dk 1)) rfl) (c_X6_get l E (d + 1) 16 (dk 1) x x0 (by omega) (by omega)) kvX6_get kiX6_get kl_X1_37 rfl rfl (As := [.int (zI x)]) rfl rfl rfl dX1_holdsAt_13 16 rfl ?_
    show V p l e (rmL 1 0 0) s m args below meth cd Q 3 s.heap [] 0 0 16 [(0, .ref d), (1, .int (zI x)), (2, .int (zI k))] [.int (zI (dk 1 x))]
    have hgv := hgo x (by omega) (by omega)
    refine v_iload_n X dX1_holdsAt_16 17 rfl 2 rfl ?_
    refine v_icmp_ne X (by omega) (by omega) dX1_holdsAt_17 20 24 rfl (by decide) (fun c_2 => ?_) (fun c_2 => ?_)
    · skip
      refine v_iconst X dX1_holdsAt_24 25 rfl ?_
      subst hQ; exact v_zret0 X hr hlk dX1_holdsAt_25 (bz_f (by omega))
    · skip
      refine v_iconst X dX1_holdsAt_20 21 rfl ?_
      refine v_goto X dX1_holdsAt_21 25 (by decide) ?_
      subst hQ; exact v_zret0 X hr hlk dX1_holdsAt_25 (bz_t (by omega))
def fhC (co : Nat → Int → Int) (g : Int → Int) (n : Nat) : Int := if firstZ (fun p => 0 < co 6 (g p)) n < 0 then -1 else g (firstZ (fun p => 0 < co 6 (g p)) n)
set_option maxHeartbeats 4000000 in
set_option maxRecDepth 20000 in
theorem c_X1_firstHeard (l : Launch) (E : Nat → Nat → Nat) (d : Nat) (dk : Nat → Int → Int) (b : Nat) (co : Nat → Int → Int) (n : Nat) (hO : OkC co) (hn : dk 0 1 = (n : Int)) (hn2 : n ≤ 16) (hgo : ∀ p : Int, 0 ≤ p → p < (n : Int) → 0 ≤ dk 1 p ∧ dk 1 p < 16) : Rd l yX1_firstHeard cX1_firstHeard 3 (some .int) 1 E [.ref d, .ref b] (docketW E d dk ++ courtW E b co) (some (.int (zI (fhC co (dk 1) n)))) := by
  refine Rd.start (own := RX1) rfl (by decide +kernel) (Nat.le_of_ble_eq_true rfl) ?_
  intro p e s m below meth cd args Q hQ X hr hlk hC hP
  have h_co := PW.right hP
  have h_dk := (PW.left hP)
  refine v_iconst X dX1_firstHeard_0 1 rfl ?_
  refine v_istore_n X dX1_firstHeard_1 2 rfl rfl (by decide) (L' := [(2, .int (zI 0)), (0, .ref d), (1, .ref b)]) rfl ?_
  refine V_L (L' := [(2, .int (zI 0)), (0, .ref d), (1, .ref b)]) (LC rfl (LC rfl (LC rfl rfl))) ?_
  refine up_loop n (P := fun (i : Nat) => (∀ j : Int, 0 ≤ j → j < (i : Int) → ¬ (0 < co 6 (dk 1 j))) → V p l e (rmL 1 0 0) s m args below meth cd Q 3 s.heap [] 0 0 2 [(2, .int (zI (i : Int))), (0, .ref d), (1, .ref b)] []) (fun i hi_i ih_i hno_i => ?_) (fun j a b => absurd b (by omega))
  refine v_iload_n X dX1_firstHeard_2 3 rfl 0 rfl ?_
  refine v_aload_n X dX1_firstHeard_3 4 rfl 1 rfl ?_
  refine v_getf X hC h_dk inX1 0 rfl rfl 1 (by decide) kf_X1_20 (fun _ h => h) rfl dX1_firstHeard_4 7 rfl ?_
  show V p l e (rmL 1 0 0) s m args below meth cd Q 3 s.heap [] 0 0 7 [(2, .int (zI (i : Int))), (0, .ref d), (1, .ref b)] [.int (zI (dk 0 1)), .int (zI (i : Int))]
  refine v_icmp_ge X (by omega) (by omega) dX1_firstHeard_7 10 43 rfl (by decide) (fun c_1 => ?_) (fun c_1 => ?_)
  · skip
    refine v_iconst X dX1_firstHeard_43 44 rfl ?_
    subst hQ; exact v_iret0 X hr hlk dX1_firstHeard_44 (by first | (unfold fhC; rw [firstZ_hit (p := fun p => 0 < co 6 (dk 1 p)) (k := (i : Int)) (by omega) (by omega) (by assumption) hno_i, if_neg (by omega)]) | (unfold fhC; rw [firstZ_none (p := fun p => 0 < co 6 (dk 1 p)) (fun j a b => hno_i j a (by omega))]; rfl))
  · skip
    refine v_aload_n X dX1_firstHeard_10 11 rfl 2 rfl ?_
    refine v_getfN X hC h_co inX0 0 rfl rfl 9 (by decide) kfn_X1_48 (fun _ h => h) rfl dX1_firstHeard_11 14 rfl ?_
    refine v_aload_n X dX1_firstHeard_14 15 rfl 1 rfl ?_
    refine v_getf X hC h_dk inX1 0 rfl rfl 0 (by decide) kf_X1_14 (fun _ h => h) rfl dX1_firstHeard_15 18 rfl ?_
    refine v_iload_n X dX1_firstHeard_18 19 rfl 0 rfl ?_
    refine v_rdV X hC (PW.part h_dk 1 2 (wc := rowW E (d + 1) 16 (dk 1)) rfl) (c_X6_get l E (d + 1) 16 (dk 1) (i : Int) (by omega) (by omega) (by omega)) kvX6_get kiX6_get kl_X1_37 rfl rfl (As := [.int (zI (i : Int))]) rfl rfl rfl dX1_firstHeard_19 22 rfl ?_
    show V p l e (rmL 1 0 0) s m args below meth cd Q 3 s.heap [] 0 0 22 [(2, .int (zI (i : Int))), (0, .ref d), (1, .ref b)] [.int (zI (dk 1 (i : Int))), .ref (b + 11)]
    have hgv := hgo (i : Int) (by omega) (by omega)
    refine v_rdV X hC (PW.part h_co 11 2 (wc := rowW E (b + 11) 16 (co 6)) rfl) (c_X6_get l E (b + 11) 16 (co 6) (dk 1 (i : Int)) (by omega) (by omega) (by omega)) kvX6_get kiX6_get kl_X1_37 rfl rfl (As := [.int (zI (dk 1 (i : Int)))]) rfl rfl rfl dX1_firstHeard_22 25 rfl ?_
    show V p l e (rmL 1 0 0) s m args below meth cd Q 3 s.heap [] 0 0 25 [(2, .int (zI (i : Int))), (0, .ref d), (1, .ref b)] [.int (zI (co 6 (dk 1 (i : Int))))]
    have hb_2 := hO.b6 (dk 1 (i : Int))
    refine v_if_le X (by omega) dX1_firstHeard_25 28 37 rfl (by decide) (fun c_3 => ?_) (fun c_3 => ?_)
    · skip
      refine v_iinc X dX1_firstHeard_37 40 rfl 0 rfl (by decide) (L' := [(2, .int (zI ((i : Int) + 1))), (0, .ref d), (1, .ref b)]) rfl ?_
      refine v_goto X dX1_firstHeard_40 2 (by decide) ?_
      exact V_L (L' := [(2, .int (zI ((i + 1 : Nat) : Int))), (0, .ref d), (1, .ref b)]) (LC (vz (by omega)) (LC rfl (LC rfl rfl))) (ih_i (by omega) (fun j a b => by
        rcases (show j < (i : Int) ∨ (i : Int) ≤ j by omega) with q | q
        · exact hno_i j a q
        · have e : j = (i : Int) := by omega
          subst e
          first | assumption | omega))
    · skip
      refine v_aload_n X dX1_firstHeard_28 29 rfl 1 rfl ?_
      refine v_getf X hC h_dk inX1 0 rfl rfl 0 (by decide) kf_X1_14 (fun _ h => h) rfl dX1_firstHeard_29 32 rfl ?_
      refine v_iload_n X dX1_firstHeard_32 33 rfl 0 rfl ?_
      refine v_rdV X hC (PW.part h_dk 1 2 (wc := rowW E (d + 1) 16 (dk 1)) rfl) (c_X6_get l E (d + 1) 16 (dk 1) (i : Int) (by omega) (by omega) (by omega)) kvX6_get kiX6_get kl_X1_37 rfl rfl (As := [.int (zI (i : Int))]) rfl rfl rfl dX1_firstHeard_33 36 rfl ?_
      show V p l e (rmL 1 0 0) s m args below meth cd Q 3 s.heap [] 0 0 36 [(2, .int (zI (i : Int))), (0, .ref d), (1, .ref b)] [.int (zI (dk 1 (i : Int)))]
      subst hQ; exact v_iret0 X hr hlk dX1_firstHeard_36 (by first | (unfold fhC; rw [firstZ_hit (p := fun p => 0 < co 6 (dk 1 p)) (k := (i : Int)) (by omega) (by omega) (by assumption) hno_i, if_neg (by omega)]) | (unfold fhC; rw [firstZ_none (p := fun p => 0 < co 6 (dk 1 p)) (fun j a b => hno_i j a (by omega))]; rfl))

