def fCh (co : Nat → Int → Int) (d o : Int) : Nat := if (0 ≤ d ∧ d < 6) ∧ (0 ≤ o ∧ o < 5) then (if 0 ≤ firstZ (fun j => co 1 j = d ∧ co 2 j = o) (co 0 0).toNat ∨ 16 ≤ co 0 0 then 4 else 0) else 2
def fWi (co : Nat → Int → Int) (x : Int) : Nat := if 0 ≤ x ∧ x ≤ 9 then (if 8 ≤ co 0 1 then 4 else 0) else 2
def fTe (co : Nat → Int → Int) (k w z : Int) : Nat := if (0 ≤ k ∧ k < co 0 0) ∧ (0 ≤ w ∧ w < co 0 1) then (if 1 ≤ z ∧ z ≤ 5 then (if co 3 k = 0 ∧ ¬ 0 < co 9 (k * 8 + w) ∧ co 6 k < 6 then 0 else 4) else 2) else 1
def fQu (co : Nat → Int → Int) (k w : Int) : Nat := if (0 ≤ k ∧ k < co 0 0) ∧ (0 ≤ w ∧ w < co 0 1) then (if 0 < co 9 (k * 8 + w) then (if co 3 k = 0 ∧ co 10 (k * 8 + w) < 2 then 0 else 4) else 3) else 1
def fDe (co : Nat → Int → Int) (k : Int) : Nat := if 0 ≤ k ∧ k < co 0 0 then (if co 3 k = 0 ∧ 0 < co 6 k then 0 else 4) else 1
def fAf (co : Nat → Int → Int) (k : Int) : Nat := if 0 ≤ k ∧ k < co 0 0 then (if co 3 k = 1 then 0 else 4) else 1
def flC (co : Nat → Int → Int) (kd a b z : Int) : Nat := if kd = 0 then fCh co a b else if kd = 1 then fWi co a else if kd = 2 then fTe co a b z else if kd = 3 then fQu co a b else if kd = 4 then fDe co a else fAf co a
def opC (co : Nat → Int → Int) (kd a b f z : Int) : Nat → Int → Int :=
  if kd = 0 then openC co a b else if kd = 1 then registerC co a else if kd = 2 then (if f = 1 then hearC1 co a b z else hearC0 co a b z) else if kd = 3 then (if f = 1 then askC1 co a b else askC0 co a b)
  else if kd = 4 then (if 0 < mgC co a then (if 2 ≤ co 5 a then judgeC11 co a else judgeC10 co a) else (if 2 ≤ co 5 a then judgeC01 co a else judgeC00 co a)) else if kd = 5 then (if ¬ co 4 a = 0 then reopenC1 co a else reopenC0 co a) else finishC co a
def opV (co : Nat → Int → Int) (kd a b f z : Int) : Int :=
  if kd = 0 then co 0 0 else if kd = 1 then co 0 1 else if kd = 2 then co 6 a + 1 else if kd = 3 then (if f = 1 then min (co 11 b + 1) 9 else max (co 11 b - 2) 0)
  else if kd = 4 then (if 0 < mgC co a then 1 else 0) else if kd = 5 then co 5 a + 1 else sumZ (fun j => bz (finishC co a 3 j = 2)) (co 0 0).toNat
theorem flC_b (co : Nat → Int → Int) (kd a b z : Int) : flC co kd a b z < 5 := by
  unfold flC fCh fWi fTe fQu fDe fAf
  repeat' split
  all_goals decide
set_option maxHeartbeats 4000000 in
set_option maxRecDepth 20000 in
theorem c_X9_isDefendant (l : Launch) (E : Nat → Nat → Nat) (x : Int) (hx : Rg x) : Rd l yX9_isDefendant cX9_isDefendant 1 (some .boolean) 0 E [.int (zI x)] ([]) (some (.int (zI (bz (0 ≤ x ∧ x < 6))))) := by
  refine Rd.start (own := RX9) rfl (by decide +kernel) (Nat.le_of_ble_eq_true rfl) ?_
  intro p e s m below meth cd args Q hQ X hr hlk hC hP
  refine v_iload_n X dX9_isDefendant_0 1 rfl 0 rfl ?_
  refine v_if_lt X (by omega) dX9_isDefendant_1 4 14 rfl (by decide) (fun c_1 => ?_) (fun c_1 => ?_)
  · skip
    refine v_iconst X dX9_isDefendant_14 15 rfl ?_
    subst hQ; exact v_zret0 X hr hlk dX9_isDefendant_15 (bz_f (by omega))
  · skip
    refine v_iload_n X dX9_isDefendant_4 5 rfl 0 rfl ?_
    refine v_bipush X dX9_isDefendant_5 7 rfl rfl ?_
    refine v_icmp_ge X (by omega) (by omega) dX9_isDefendant_7 10 14 rfl (by decide) (fun c_2 => ?_) (fun c_2 => ?_)
    · skip
      refine v_iconst X dX9_isDefendant_14 15 rfl ?_
      subst hQ; exact v_zret0 X hr hlk dX9_isDefendant_15 (bz_f (by omega))
    · skip
      refine v_iconst X dX9_isDefendant_10 11 rfl ?_
      refine v_goto X dX9_isDefendant_11 15 (by decide) ?_
      subst hQ; exact v_zret0 X hr hlk dX9_isDefendant_15 (bz_t (by omega))
set_option maxHeartbeats 4000000 in
set_option maxRecDepth 20000 in
theorem c_X9_isOffence (l : Launch) (E : Nat → Nat → Nat) (x : Int) (hx : Rg x) : Rd l yX9_isOffence cX9_isOffence 1 (some .boolean) 0 E [.int (zI x)] ([]) (some (.int (zI (bz (0 ≤ x ∧ x < 5))))) := by
  refine Rd.start (own := RX9) rfl (by decide +kernel) (Nat.le_of_ble_eq_true rfl) ?_
  intro p e s m below meth cd args Q hQ X hr hlk hC hP
  refine v_iload_n X dX9_isOffence_0 1 rfl 0 rfl ?_
  refine v_if_lt X (by omega) dX9_isOffence_1 4 13 rfl (by decide) (fun c_1 => ?_) (fun c_1 => ?_)
  · skip
    refine v_iconst X dX9_isOffence_13 14 rfl ?_
    subst hQ; exact v_zret0 X hr hlk dX9_isOffence_14 (bz_f (by omega))
  · skip
    refine v_iload_n X dX9_isOffence_4 5 rfl 0 rfl ?_
    refine v_iconst X dX9_isOffence_5 6 rfl ?_
    refine v_icmp_ge X (by omega) (by omega) dX9_isOffence_6 9 13 rfl (by decide) (fun c_2 => ?_) (fun c_2 => ?_)
    · skip
      refine v_iconst X dX9_isOffence_13 14 rfl ?_
      subst hQ; exact v_zret0 X hr hlk dX9_isOffence_14 (bz_f (by omega))
    · skip
      refine v_iconst X dX9_isOffence_9 10 rfl ?_
      refine v_goto X dX9_isOffence_10 14 (by decide) ?_
      subst hQ; exact v_zret0 X hr hlk dX9_isOffence_14 (bz_t (by omega))
set_option maxHeartbeats 4000000 in
set_option maxRecDepth 20000 in
theorem c_X0_faultOfCharge (l : Launch) (E : Nat → Nat → Nat) (b : Nat) (co : Nat → Int → Int) (d : Int) (o : Int) (hO : OkC co) (hd : Rg d) (ho : Rg o) : Rd l yX0_faultOfCharge cX0_faultOfCharge 4 (some (.object "CaseManager$Fault")) 2 E [.ref b, .int (zI d), .int (zI o)] (courtW E b co) (some (.ref (E 103 (fCh co d o)))) := by
  refine Rd.start (own := RX0) rfl (by decide +kernel) (Nat.le_of_ble_eq_true rfl) ?_
  intro p e s m below meth cd args Q hQ X hr hlk hC hP
  have h_co := hP
  have hb0 := hO.b0
  have hbw := hO.bw
  refine v_iload_n X dX0_faultOfCharge_0 1 rfl 1 rfl ?_
  refine v_rdSN X hC (ws0 E s.heap) (c_X9_isDefendant l E d hd) kvX9_isDefendant ksX9_isDefendant kln_X0_126 (As := [.int (zI d)]) rfl rfl rfl dX0_faultOfCharge_1 4 rfl ?_
  show V p l e (rmL 2 0 0) s m args below meth cd Q 4 s.heap [] 0 0 4 [(0, .ref b), (1, .int (zI d)), (2, .int (zI o))] [.int (zI (bz (0 ≤ d ∧ d < 6)))]
  refine v_bif_eq X dX0_faultOfCharge_4 7 14 rfl (by decide) (fun c_1 => ?_) (fun c_1 => ?_)
  · skip
    refine v_flt X (MS0 hC) 2 (by decide) kf_X0_133 dX0_faultOfCharge_14 17 rfl ?_
    refine V_S (st' := [.ref (E 103 (fCh co d o))]) (by rw [show (fCh co d o) = 2 by unfold fCh; (repeat' split) <;> omega]) ?_
    subst hQ; exact v_aret0 X hr (Or.inl ⟨_, rfl⟩) hlk dX0_faultOfCharge_17 (Or.inr ⟨_, rfl⟩)
  · skip
    refine v_iload_n X dX0_faultOfCharge_7 8 rfl 2 rfl ?_
    refine v_rdSN X hC (ws0 E s.heap) (c_X9_isOffence l E o ho) kvX9_isOffence ksX9_isOffence kln_X0_130 (As := [.int (zI o)]) rfl rfl rfl dX0_faultOfCharge_8 11 rfl ?_
    show V p l e (rmL 2 0 0) s m args below meth cd Q 4 s.heap [] 0 0 11 [(0, .ref b), (1, .int (zI d)), (2, .int (zI o))] [.int (zI (bz (0 ≤ o ∧ o < 5)))]
    refine v_bif_ne X dX0_faultOfCharge_11 14 18 rfl (by decide) (fun c_2 => ?_) (fun c_2 => ?_)
    · skip
      refine v_aload_n X dX0_faultOfCharge_18 19 rfl 0 rfl ?_
      refine v_iload_n X dX0_faultOfCharge_19 20 rfl 1 rfl ?_
      refine v_iload_n X dX0_faultOfCharge_20 21 rfl 2 rfl ?_
      refine v_rdV X hC h_co (c_X0_caseAgainst l E b co d o hO (by omega) (by omega) (by omega) (by omega)) kvX0_caseAgainst kiX0_caseAgainst kl_X0_139 rfl rfl (As := [.int (zI d), .int (zI o)]) rfl rfl rfl dX0_faultOfCharge_21 24 rfl ?_
      show V p l e (rmL 2 0 0) s m args below meth cd Q 4 s.heap [] 0 0 24 [(0, .ref b), (1, .int (zI d)), (2, .int (zI o))] [.int (zI (firstZ (fun j => co 1 j = d ∧ co 2 j = o) (co 0 0).toNat))]
      have hb_3 := hO.b0
      have hf_4 := firstZ_b (fun j => co 1 j = d ∧ co 2 j = o) (co 0 0).toNat
      refine v_iconst X dX0_faultOfCharge_24 25 rfl ?_
      refine v_icmp_eq X (by omega) (by omega) dX0_faultOfCharge_25 28 32 rfl (by decide) (fun c_5 => ?_) (fun c_5 => ?_)
      · skip
        refine v_iconst X dX0_faultOfCharge_32 33 rfl ?_
        refine v_istore_n X dX0_faultOfCharge_33 34 rfl rfl (by decide) (L' := [(3, .int (zI 0)), (0, .ref b), (1, .int (zI d)), (2, .int (zI o))]) rfl ?_
        refine v_iload_n X dX0_faultOfCharge_34 35 rfl 0 rfl ?_
        refine v_if_ne X (by omega) dX0_faultOfCharge_35 38 47 rfl (by decide) (fun c_6 => ?_) (fun c_6 => ?_)
        · skip
          exfalso; omega
        · skip
          refine v_aload_n X dX0_faultOfCharge_38 39 rfl 1 rfl ?_
          refine v_getf X hC h_co inX0 0 rfl rfl 0 (by decide) kf_X0_9 (fun _ h => h) rfl dX0_faultOfCharge_39 42 rfl ?_
          show V p l e (rmL 2 0 0) s m args below meth cd Q 4 s.heap [] 0 0 42 [(3, .int (zI 0)), (0, .ref b), (1, .int (zI d)), (2, .int (zI o))] [.int (zI (co 0 0))]
          refine v_bipush X dX0_faultOfCharge_42 44 rfl rfl ?_
          refine v_icmp_lt X (by omega) (by omega) dX0_faultOfCharge_44 47 53 rfl (by decide) (fun c_7 => ?_) (fun c_7 => ?_)
          · skip
            refine v_flt X (MS0 hC) 0 (by decide) kf_X0_145 dX0_faultOfCharge_53 56 rfl ?_
            refine V_S (st' := [.ref (E 103 (fCh co d o))]) (by rw [show (fCh co d o) = 0 by unfold fCh; (repeat' split) <;> omega]) ?_
            subst hQ; exact v_aret0 X hr (Or.inl ⟨_, rfl⟩) hlk dX0_faultOfCharge_56 (Or.inr ⟨_, rfl⟩)
          · skip
            refine v_flt X (MS0 hC) 4 (by decide) kf_X0_142 dX0_faultOfCharge_47 50 rfl ?_
            refine v_goto X dX0_faultOfCharge_50 56 (by decide) ?_
            refine V_S (st' := [.ref (E 103 (fCh co d o))]) (by rw [show (fCh co d o) = 4 by unfold fCh; (repeat' split) <;> omega]) ?_
            subst hQ; exact v_aret0 X hr (Or.inl ⟨_, rfl⟩) hlk dX0_faultOfCharge_56 (Or.inr ⟨_, rfl⟩)
      · skip
        refine v_iconst X dX0_faultOfCharge_28 29 rfl ?_
        refine v_goto X dX0_faultOfCharge_29 33 (by decide) ?_
        refine v_istore_n X dX0_faultOfCharge_33 34 rfl rfl (by decide) (L' := [(3, .int (zI 1)), (0, .ref b), (1, .int (zI d)), (2, .int (zI o))]) rfl ?_
        refine v_iload_n X dX0_faultOfCharge_34 35 rfl 0 rfl ?_
        refine v_if_ne X (by omega) dX0_faultOfCharge_35 38 47 rfl (by decide) (fun c_8 => ?_) (fun c_8 => ?_)
        · skip
          refine v_flt X (MS0 hC) 4 (by decide) kf_X0_142 dX0_faultOfCharge_47 50 rfl ?_
          refine v_goto X dX0_faultOfCharge_50 56 (by decide) ?_
          refine V_S (st' := [.ref (E 103 (fCh co d o))]) (by rw [show (fCh co d o) = 4 by unfold fCh; (repeat' split) <;> omega]) ?_
          subst hQ; exact v_aret0 X hr (Or.inl ⟨_, rfl⟩) hlk dX0_faultOfCharge_56 (Or.inr ⟨_, rfl⟩)
        · skip
          exfalso; omega
    · skip
      refine v_flt X (MS0 hC) 2 (by decide) kf_X0_133 dX0_faultOfCharge_14 17 rfl ?_
      refine V_S (st' := [.ref (E 103 (fCh co d o))]) (by rw [show (fCh co d o) = 2 by unfold fCh; (repeat' split) <;> omega]) ?_
      subst hQ; exact v_aret0 X hr (Or.inl ⟨_, rfl⟩) hlk dX0_faultOfCharge_17 (Or.inr ⟨_, rfl⟩)
set_option maxHeartbeats 4000000 in
set_option maxRecDepth 20000 in
theorem c_X0_faultOfWitness (l : Launch) (E : Nat → Nat → Nat) (b : Nat) (co : Nat → Int → Int) (x : Int) (hO : OkC co) (hx : Rg x) : Rd l yX0_faultOfWitness cX0_faultOfWitness 2 (some (.object "CaseManager$Fault")) 0 E [.ref b, .int (zI x)] (courtW E b co) (some (.ref (E 103 (fWi co x)))) := by
  refine Rd.start (own := RX0) rfl (by decide +kernel) (Nat.le_of_ble_eq_true rfl) ?_
  intro p e s m below meth cd args Q hQ X hr hlk hC hP
  have h_co := hP
  have hb0 := hO.b0
  have hbw := hO.bw
  refine v_iload_n X dX0_faultOfWitness_0 1 rfl 1 rfl ?_
  refine v_if_lt X (by omega) dX0_faultOfWitness_1 4 10 rfl (by decide) (fun c_1 => ?_) (fun c_1 => ?_)
  · skip
    refine v_flt X (MS0 hC) 2 (by decide) kf_X0_133 dX0_faultOfWitness_10 13 rfl ?_
    refine V_S (st' := [.ref (E 103 (fWi co x))]) (by rw [show (fWi co x) = 2 by unfold fWi; (repeat' split) <;> omega]) ?_
    subst hQ; exact v_aret0 X hr (Or.inl ⟨_, rfl⟩) hlk dX0_faultOfWitness_13 (Or.inr ⟨_, rfl⟩)
  · skip
    refine v_iload_n X dX0_faultOfWitness_4 5 rfl 1 rfl ?_
    refine v_bipush X dX0_faultOfWitness_5 7 rfl rfl ?_
    refine v_icmp_le X (by omega) (by omega) dX0_faultOfWitness_7 10 14 rfl (by decide) (fun c_2 => ?_) (fun c_2 => ?_)
    · skip
      refine v_aload_n X dX0_faultOfWitness_14 15 rfl 0 rfl ?_
      refine v_getf X hC h_co inX0 0 rfl rfl 1 (by decide) kf_X0_15 (fun _ h => h) rfl dX0_faultOfWitness_15 18 rfl ?_
      show V p l e (rmL 0 0 0) s m args below meth cd Q 2 s.heap [] 0 0 18 [(0, .ref b), (1, .int (zI x))] [.int (zI (co 0 1))]
      refine v_bipush X dX0_faultOfWitness_18 20 rfl rfl ?_
      have hb_4 := hO.bw
      refine v_icmp_lt X (by omega) (by omega) dX0_faultOfWitness_20 23 29 rfl (by decide) (fun c_3 => ?_) (fun c_3 => ?_)
      · skip
        refine v_flt X (MS0 hC) 0 (by decide) kf_X0_145 dX0_faultOfWitness_29 32 rfl ?_
        refine V_S (st' := [.ref (E 103 (fWi co x))]) (by rw [show (fWi co x) = 0 by unfold fWi; (repeat' split) <;> omega]) ?_
        subst hQ; exact v_aret0 X hr (Or.inl ⟨_, rfl⟩) hlk dX0_faultOfWitness_32 (Or.inr ⟨_, rfl⟩)
      · skip
        refine v_flt X (MS0 hC) 4 (by decide) kf_X0_142 dX0_faultOfWitness_23 26 rfl ?_
        refine v_goto X dX0_faultOfWitness_26 32 (by decide) ?_
        refine V_S (st' := [.ref (E 103 (fWi co x))]) (by rw [show (fWi co x) = 4 by unfold fWi; (repeat' split) <;> omega]) ?_
        subst hQ; exact v_aret0 X hr (Or.inl ⟨_, rfl⟩) hlk dX0_faultOfWitness_32 (Or.inr ⟨_, rfl⟩)
    · skip
      refine v_flt X (MS0 hC) 2 (by decide) kf_X0_133 dX0_faultOfWitness_10 13 rfl ?_
      refine V_S (st' := [.ref (E 103 (fWi co x))]) (by rw [show (fWi co x) = 2 by unfold fWi; (repeat' split) <;> omega]) ?_
      subst hQ; exact v_aret0 X hr (Or.inl ⟨_, rfl⟩) hlk dX0_faultOfWitness_13 (Or.inr ⟨_, rfl⟩)
set_option maxHeartbeats 4000000 in
set_option maxRecDepth 20000 in
theorem c_X0_faultOfTestimony (l : Launch) (E : Nat → Nat → Nat) (b : Nat) (co : Nat → Int → Int) (k : Int) (w : Int) (z : Int) (hO : OkC co) (hk : Rg k) (hw : Rg w) (hz : Rg z) : Rd l yX0_faultOfTestimony cX0_faultOfTestimony 6 (some (.object "CaseManager$Fault")) 2 E [.ref b, .int (zI k), .int (zI w), .int (zI z)] (courtW E b co) (some (.ref (E 103 (fTe co k w z)))) := by
  refine Rd.start (own := RX0) rfl (by decide +kernel) (Nat.le_of_ble_eq_true rfl) ?_
  intro p e s m below meth cd args Q hQ X hr hlk hC hP
  have h_co := hP
  have hb0 := hO.b0
  have hbw := hO.bw
  refine v_aload_n X dX0_faultOfTestimony_0 1 rfl 0 rfl ?_
  refine v_iload_n X dX0_faultOfTestimony_1 2 rfl 1 rfl ?_
  refine v_rdV X hC h_co (c_X0_hasCase l E b co k hO hk) kvX0_hasCase kiX0_hasCase kl_X0_148 rfl rfl (As := [.int (zI k)]) rfl rfl rfl dX0_faultOfTestimony_2 5 rfl ?_
  show V p l e (rmL 2 0 0) s m args below meth cd Q 6 s.heap [] 0 0 5 [(0, .ref b), (1, .int (zI k)), (2, .int (zI w)), (3, .int (zI z))] [.int (zI (bz (0 ≤ k ∧ k < co 0 0)))]
  refine v_bif_eq X dX0_faultOfTestimony_5 8 16 rfl (by decide) (fun c_1 => ?_) (fun c_1 => ?_)
  · skip
    refine v_flt X (MS0 hC) 1 (by decide) kf_X0_154 dX0_faultOfTestimony_16 19 rfl ?_
    refine V_S (st' := [.ref (E 103 (fTe co k w z))]) (by rw [show (fTe co k w z) = 1 by unfold fTe; (repeat' split) <;> omega]) ?_
    subst hQ; exact v_aret0 X hr (Or.inl ⟨_, rfl⟩) hlk dX0_faultOfTestimony_19 (Or.inr ⟨_, rfl⟩)
  · skip
    refine v_aload_n X dX0_faultOfTestimony_8 9 rfl 0 rfl ?_
    refine v_iload_n X dX0_faultOfTestimony_9 10 rfl 2 rfl ?_
    refine v_rdV X hC h_co (c_X0_hasWitness l E b co w hO hw) kvX0_hasWitness kiX0_hasWitness kl_X0_151 rfl rfl (As := [.int (zI w)]) rfl rfl rfl dX0_faultOfTestimony_10 13 rfl ?_
    show V p l e (rmL 2 0 0) s m args below meth cd Q 6 s.heap [] 0 0 13 [(0, .ref b), (1, .int (zI k)), (2, .int (zI w)), (3, .int (zI z))] [.int (zI (bz (0 ≤ w ∧ w < co 0 1)))]
    refine v_bif_ne X dX0_faultOfTestimony_13 16 20 rfl (by decide) (fun c_2 => ?_) (fun c_2 => ?_)
    · skip
      refine v_iload_n X dX0_faultOfTestimony_20 21 rfl 3 rfl ?_
      refine v_iconst X dX0_faultOfTestimony_21 22 rfl ?_
      refine v_icmp_lt X (by omega) (by omega) dX0_faultOfTestimony_22 25 30 rfl (by decide) (fun c_3 => ?_) (fun c_3 => ?_)
      · skip
        refine v_flt X (MS0 hC) 2 (by decide) kf_X0_133 dX0_faultOfTestimony_30 33 rfl ?_
        refine V_S (st' := [.ref (E 103 (fTe co k w z))]) (by rw [show (fTe co k w z) = 2 by unfold fTe; (repeat' split) <;> omega]) ?_
        subst hQ; exact v_aret0 X hr (Or.inl ⟨_, rfl⟩) hlk dX0_faultOfTestimony_33 (Or.inr ⟨_, rfl⟩)
      · skip
        refine v_iload_n X dX0_faultOfTestimony_25 26 rfl 3 rfl ?_
        refine v_iconst X dX0_faultOfTestimony_26 27 rfl ?_
        refine v_icmp_le X (by omega) (by omega) dX0_faultOfTestimony_27 30 34 rfl (by decide) (fun c_4 => ?_) (fun c_4 => ?_)
        · skip
          refine v_aload_n X dX0_faultOfTestimony_34 35 rfl 0 rfl ?_
          refine v_getf X hC h_co inX0 0 rfl rfl 9 (by decide) kf_X0_45 (fun _ h => h) rfl dX0_faultOfTestimony_35 38 rfl ?_
          refine v_iload_n X dX0_faultOfTestimony_38 39 rfl 1 rfl ?_
          refine v_rdV X hC (PW.part h_co 11 2 (wc := rowW E (b + 11) 16 (co 6)) rfl) (c_X6_get l E (b + 11) 16 (co 6) k (by omega) (by omega) (by omega)) kvX6_get kiX6_get kl_X0_157 rfl rfl (As := [.int (zI k)]) rfl rfl rfl dX0_faultOfTestimony_39 42 rfl ?_
          show V p l e (rmL 2 0 0) s m args below meth cd Q 6 s.heap [] 0 0 42 [(0, .ref b), (1, .int (zI k)), (2, .int (zI w)), (3, .int (zI z))] [.int (zI (co 6 k))]
          have hb_5 := hO.b6 k
          refine v_bipush X dX0_faultOfTestimony_42 44 rfl rfl ?_
          refine v_icmp_lt X (by omega) (by omega) dX0_faultOfTestimony_44 47 51 rfl (by decide) (fun c_6 => ?_) (fun c_6 => ?_)
          · skip
            refine v_iconst X dX0_faultOfTestimony_51 52 rfl ?_
            refine v_istore X dX0_faultOfTestimony_52 54 rfl (by decide) (L' := [(4, .int (zI 0)), (0, .ref b), (1, .int (zI k)), (2, .int (zI w)), (3, .int (zI z))]) rfl ?_
            refine v_aload_n X dX0_faultOfTestimony_54 55 rfl 1 rfl ?_
            refine v_iconst X dX0_faultOfTestimony_55 56 rfl ?_
            refine v_iload_n X dX0_faultOfTestimony_56 57 rfl 2 rfl ?_
            refine v_rdV X hC h_co (c_X0_isIn l E b co 0 k hO (by omega) (by omega) (by omega)) kvX0_isIn kiX0_isIn kl_X0_160 rfl rfl (As := [.int (zI 0), .int (zI k)]) rfl rfl rfl dX0_faultOfTestimony_57 60 rfl ?_
            show V p l e (rmL 2 0 0) s m args below meth cd Q 6 s.heap [] 0 0 60 [(4, .int (zI 0)), (0, .ref b), (1, .int (zI k)), (2, .int (zI w)), (3, .int (zI z))] [.int (zI (bz (co 3 k = 0)))]
            refine v_bif_eq X dX0_faultOfTestimony_60 63 77 rfl (by decide) (fun c_7 => ?_) (fun c_7 => ?_)
            · skip
              refine v_iconst X dX0_faultOfTestimony_77 78 rfl ?_
              refine v_goto X dX0_faultOfTestimony_78 82 (by decide) ?_
              refine v_istore X dX0_faultOfTestimony_82 84 rfl (by decide) (L' := [(5, .int (zI 1)), (4, .int (zI 0)), (0, .ref b), (1, .int (zI k)), (2, .int (zI w)), (3, .int (zI z))]) rfl ?_
              refine v_iload X dX0_faultOfTestimony_84 86 rfl 0 rfl ?_
              refine v_if_eq X (by omega) dX0_faultOfTestimony_86 89 95 rfl (by decide) (fun c_8 => ?_) (fun c_8 => ?_)
              · skip
                exfalso; omega
              · skip
                refine v_flt X (MS0 hC) 4 (by decide) kf_X0_142 dX0_faultOfTestimony_89 92 rfl ?_
                refine v_goto X dX0_faultOfTestimony_92 98 (by decide) ?_
                refine V_S (st' := [.ref (E 103 (fTe co k w z))]) (by rw [show (fTe co k w z) = 4 by unfold fTe; (repeat' split) <;> omega]) ?_
                subst hQ; exact v_aret0 X hr (Or.inl ⟨_, rfl⟩) hlk dX0_faultOfTestimony_98 (Or.inr ⟨_, rfl⟩)
            · skip
              refine v_aload_n X dX0_faultOfTestimony_63 64 rfl 1 rfl ?_
              refine v_iload_n X dX0_faultOfTestimony_64 65 rfl 2 rfl ?_
              refine v_iload_n X dX0_faultOfTestimony_65 66 rfl 3 rfl ?_
              refine v_rdV X hC h_co (c_X0_hasHeard l E b co k w hO (by omega) (by omega) (by omega) (by omega)) kvX0_hasHeard kiX0_hasHeard kl_X0_164 rfl rfl (As := [.int (zI k), .int (zI w)]) rfl rfl rfl dX0_faultOfTestimony_66 69 rfl ?_
              show V p l e (rmL 2 0 0) s m args below meth cd Q 6 s.heap [] 0 0 69 [(4, .int (zI 0)), (0, .ref b), (1, .int (zI k)), (2, .int (zI w)), (3, .int (zI z))] [.int (zI (bz (0 < co 9 (k * 8 + w))))]
              refine v_bif_ne X dX0_faultOfTestimony_69 72 77 rfl (by decide) (fun c_9 => ?_) (fun c_9 => ?_)
              · skip
                refine v_iconst X dX0_faultOfTestimony_77 78 rfl ?_
                refine v_goto X dX0_faultOfTestimony_78 82 (by decide) ?_
                refine v_istore X dX0_faultOfTestimony_82 84 rfl (by decide) (L' := [(5, .int (zI 1)), (4, .int (zI 0)), (0, .ref b), (1, .int (zI k)), (2, .int (zI w)), (3, .int (zI z))]) rfl ?_
                refine v_iload X dX0_faultOfTestimony_84 86 rfl 0 rfl ?_
                refine v_if_eq X (by omega) dX0_faultOfTestimony_86 89 95 rfl (by decide) (fun c_10 => ?_) (fun c_10 => ?_)
                · skip
                  exfalso; omega
                · skip
                  refine v_flt X (MS0 hC) 4 (by decide) kf_X0_142 dX0_faultOfTestimony_89 92 rfl ?_
                  refine v_goto X dX0_faultOfTestimony_92 98 (by decide) ?_
                  refine V_S (st' := [.ref (E 103 (fTe co k w z))]) (by rw [show (fTe co k w z) = 4 by unfold fTe; (repeat' split) <;> omega]) ?_
                  subst hQ; exact v_aret0 X hr (Or.inl ⟨_, rfl⟩) hlk dX0_faultOfTestimony_98 (Or.inr ⟨_, rfl⟩)
              · skip
                refine v_iload X dX0_faultOfTestimony_72 74 rfl 0 rfl ?_
                refine v_if_eq X (by omega) dX0_faultOfTestimony_74 77 81 rfl (by decide) (fun c_11 => ?_) (fun c_11 => ?_)
                · skip
                  refine v_iconst X dX0_faultOfTestimony_81 82 rfl ?_
                  refine v_istore X dX0_faultOfTestimony_82 84 rfl (by decide) (L' := [(5, .int (zI 0)), (4, .int (zI 0)), (0, .ref b), (1, .int (zI k)), (2, .int (zI w)), (3, .int (zI z))]) rfl ?_
                  refine v_iload X dX0_faultOfTestimony_84 86 rfl 0 rfl ?_
                  refine v_if_eq X (by omega) dX0_faultOfTestimony_86 89 95 rfl (by decide) (fun c_12 => ?_) (fun c_12 => ?_)
                  · skip
                    refine v_flt X (MS0 hC) 0 (by decide) kf_X0_145 dX0_faultOfTestimony_95 98 rfl ?_
                    refine V_S (st' := [.ref (E 103 (fTe co k w z))]) (by rw [show (fTe co k w z) = 0 by unfold fTe; (repeat' split) <;> omega]) ?_
                    subst hQ; exact v_aret0 X hr (Or.inl ⟨_, rfl⟩) hlk dX0_faultOfTestimony_98 (Or.inr ⟨_, rfl⟩)
                  · skip
                    exfalso; omega
                · skip
                  exfalso; omega
          · skip
            refine v_iconst X dX0_faultOfTestimony_47 48 rfl ?_
            refine v_goto X dX0_faultOfTestimony_48 52 (by decide) ?_
            refine v_istore X dX0_faultOfTestimony_52 54 rfl (by decide) (L' := [(4, .int (zI 1)), (0, .ref b), (1, .int (zI k)), (2, .int (zI w)), (3, .int (zI z))]) rfl ?_
            refine v_aload_n X dX0_faultOfTestimony_54 55 rfl 1 rfl ?_
            refine v_iconst X dX0_faultOfTestimony_55 56 rfl ?_
            refine v_iload_n X dX0_faultOfTestimony_56 57 rfl 2 rfl ?_
            refine v_rdV X hC h_co (c_X0_isIn l E b co 0 k hO (by omega) (by omega) (by omega)) kvX0_isIn kiX0_isIn kl_X0_160 rfl rfl (As := [.int (zI 0), .int (zI k)]) rfl rfl rfl dX0_faultOfTestimony_57 60 rfl ?_
            show V p l e (rmL 2 0 0) s m args below meth cd Q 6 s.heap [] 0 0 60 [(4, .int (zI 1)), (0, .ref b), (1, .int (zI k)), (2, .int (zI w)), (3, .int (zI z))] [.int (zI (bz (co 3 k = 0)))]
            refine v_bif_eq X dX0_faultOfTestimony_60 63 77 rfl (by decide) (fun c_13 => ?_) (fun c_13 => ?_)
            · skip
              refine v_iconst X dX0_faultOfTestimony_77 78 rfl ?_
              refine v_goto X dX0_faultOfTestimony_78 82 (by decide) ?_
              refine v_istore X dX0_faultOfTestimony_82 84 rfl (by decide) (L' := [(5, .int (zI 1)), (4, .int (zI 1)), (0, .ref b), (1, .int (zI k)), (2, .int (zI w)), (3, .int (zI z))]) rfl ?_
              refine v_iload X dX0_faultOfTestimony_84 86 rfl 0 rfl ?_
              refine v_if_eq X (by omega) dX0_faultOfTestimony_86 89 95 rfl (by decide) (fun c_14 => ?_) (fun c_14 => ?_)
              · skip
                exfalso; omega
              · skip
                refine v_flt X (MS0 hC) 4 (by decide) kf_X0_142 dX0_faultOfTestimony_89 92 rfl ?_
                refine v_goto X dX0_faultOfTestimony_92 98 (by decide) ?_
                refine V_S (st' := [.ref (E 103 (fTe co k w z))]) (by rw [show (fTe co k w z) = 4 by unfold fTe; (repeat' split) <;> omega]) ?_
                subst hQ; exact v_aret0 X hr (Or.inl ⟨_, rfl⟩) hlk dX0_faultOfTestimony_98 (Or.inr ⟨_, rfl⟩)
            · skip
              refine v_aload_n X dX0_faultOfTestimony_63 64 rfl 1 rfl ?_
              refine v_iload_n X dX0_faultOfTestimony_64 65 rfl 2 rfl ?_
              refine v_iload_n X dX0_faultOfTestimony_65 66 rfl 3 rfl ?_
              refine v_rdV X hC h_co (c_X0_hasHeard l E b co k w hO (by omega) (by omega) (by omega) (by omega)) kvX0_hasHeard kiX0_hasHeard kl_X0_164 rfl rfl (As := [.int (zI k), .int (zI w)]) rfl rfl rfl dX0_faultOfTestimony_66 69 rfl ?_
              show V p l e (rmL 2 0 0) s m args below meth cd Q 6 s.heap [] 0 0 69 [(4, .int (zI 1)), (0, .ref b), (1, .int (zI k)), (2, .int (zI w)), (3, .int (zI z))] [.int (zI (bz (0 < co 9 (k * 8 + w))))]
              refine v_bif_ne X dX0_faultOfTestimony_69 72 77 rfl (by decide) (fun c_15 => ?_) (fun c_15 => ?_)
              · skip
                refine v_iconst X dX0_faultOfTestimony_77 78 rfl ?_
                refine v_goto X dX0_faultOfTestimony_78 82 (by decide) ?_
                refine v_istore X dX0_faultOfTestimony_82 84 rfl (by decide) (L' := [(5, .int (zI 1)), (4, .int (zI 1)), (0, .ref b), (1, .int (zI k)), (2, .int (zI w)), (3, .int (zI z))]) rfl ?_
                refine v_iload X dX0_faultOfTestimony_84 86 rfl 0 rfl ?_
                refine v_if_eq X (by omega) dX0_faultOfTestimony_86 89 95 rfl (by decide) (fun c_16 => ?_) (fun c_16 => ?_)
                · skip
                  exfalso; omega
                · skip
                  refine v_flt X (MS0 hC) 4 (by decide) kf_X0_142 dX0_faultOfTestimony_89 92 rfl ?_
                  refine v_goto X dX0_faultOfTestimony_92 98 (by decide) ?_
                  refine V_S (st' := [.ref (E 103 (fTe co k w z))]) (by rw [show (fTe co k w z) = 4 by unfold fTe; (repeat' split) <;> omega]) ?_
                  subst hQ; exact v_aret0 X hr (Or.inl ⟨_, rfl⟩) hlk dX0_faultOfTestimony_98 (Or.inr ⟨_, rfl⟩)
              · skip
                refine v_iload X dX0_faultOfTestimony_72 74 rfl 0 rfl ?_
                refine v_if_eq X (by omega) dX0_faultOfTestimony_74 77 81 rfl (by decide) (fun c_17 => ?_) (fun c_17 => ?_)
                · skip
                  exfalso; omega
                · skip
                  refine v_iconst X dX0_faultOfTestimony_77 78 rfl ?_
                  refine v_goto X dX0_faultOfTestimony_78 82 (by decide) ?_
                  refine v_istore X dX0_faultOfTestimony_82 84 rfl (by decide) (L' := [(5, .int (zI 1)), (4, .int (zI 1)), (0, .ref b), (1, .int (zI k)), (2, .int (zI w)), (3, .int (zI z))]) rfl ?_
                  refine v_iload X dX0_faultOfTestimony_84 86 rfl 0 rfl ?_
                  refine v_if_eq X (by omega) dX0_faultOfTestimony_86 89 95 rfl (by decide) (fun c_18 => ?_) (fun c_18 => ?_)
                  · skip
                    exfalso; omega
                  · skip
                    refine v_flt X (MS0 hC) 4 (by decide) kf_X0_142 dX0_faultOfTestimony_89 92 rfl ?_
                    refine v_goto X dX0_faultOfTestimony_92 98 (by decide) ?_
                    refine V_S (st' := [.ref (E 103 (fTe co k w z))]) (by rw [show (fTe co k w z) = 4 by unfold fTe; (repeat' split) <;> omega]) ?_
                    subst hQ; exact v_aret0 X hr (Or.inl ⟨_, rfl⟩) hlk dX0_faultOfTestimony_98 (Or.inr ⟨_, rfl⟩)
        · skip
          refine v_flt X (MS0 hC) 2 (by decide) kf_X0_133 dX0_faultOfTestimony_30 33 rfl ?_
          refine V_S (st' := [.ref (E 103 (fTe co k w z))]) (by rw [show (fTe co k w z) = 2 by unfold fTe; (repeat' split) <;> omega]) ?_
          subst hQ; exact v_aret0 X hr (Or.inl ⟨_, rfl⟩) hlk dX0_faultOfTestimony_33 (Or.inr ⟨_, rfl⟩)
    · skip
      refine v_flt X (MS0 hC) 1 (by decide) kf_X0_154 dX0_faultOfTestimony_16 19 rfl ?_
      refine V_S (st' := [.ref (E 103 (fTe co k w z))]) (by rw [show (fTe co k w z) = 1 by unfold fTe; (repeat' split) <;> omega]) ?_
      subst hQ; exact v_aret0 X hr (Or.inl ⟨_, rfl⟩) hlk dX0_faultOfTestimony_19 (Or.inr ⟨_, rfl⟩)
set_option maxHeartbeats 4000000 in
set_option maxRecDepth 20000 in
theorem c_X0_faultOfQuestion (l : Launch) (E : Nat → Nat → Nat) (b : Nat) (co : Nat → Int → Int) (k : Int) (w : Int) (hO : OkC co) (hk : Rg k) (hw : Rg w) : Rd l yX0_faultOfQuestion cX0_faultOfQuestion 4 (some (.object "CaseManager$Fault")) 2 E [.ref b, .int (zI k), .int (zI w)] (courtW E b co) (some (.ref (E 103 (fQu co k w)))) := by
  refine Rd.start (own := RX0) rfl (by decide +kernel) (Nat.le_of_ble_eq_true rfl) ?_
  intro p e s m below meth cd args Q hQ X hr hlk hC hP
  have h_co := hP
  have hb0 := hO.b0
  have hbw := hO.bw
  refine v_aload_n X dX0_faultOfQuestion_0 1 rfl 0 rfl ?_
  refine v_iload_n X dX0_faultOfQuestion_1 2 rfl 1 rfl ?_
  refine v_rdV X hC h_co (c_X0_hasCase l E b co k hO hk) kvX0_hasCase kiX0_hasCase kl_X0_148 rfl rfl (As := [.int (zI k)]) rfl rfl rfl dX0_faultOfQuestion_2 5 rfl ?_
  show V p l e (rmL 2 0 0) s m args below meth cd Q 4 s.heap [] 0 0 5 [(0, .ref b), (1, .int (zI k)), (2, .int (zI w))] [.int (zI (bz (0 ≤ k ∧ k < co 0 0)))]
  refine v_bif_eq X dX0_faultOfQuestion_5 8 16 rfl (by decide) (fun c_1 => ?_) (fun c_1 => ?_)
  · skip
    refine v_flt X (MS0 hC) 1 (by decide) kf_X0_154 dX0_faultOfQuestion_16 19 rfl ?_
    refine V_S (st' := [.ref (E 103 (fQu co k w))]) (by rw [show (fQu co k w) = 1 by unfold fQu; (repeat' split) <;> omega]) ?_
    subst hQ; exact v_aret0 X hr (Or.inl ⟨_, rfl⟩) hlk dX0_faultOfQuestion_19 (Or.inr ⟨_, rfl⟩)
  · skip
    refine v_aload_n X dX0_faultOfQuestion_8 9 rfl 0 rfl ?_
    refine v_iload_n X dX0_faultOfQuestion_9 10 rfl 2 rfl ?_
    refine v_rdV X hC h_co (c_X0_hasWitness l E b co w hO hw) kvX0_hasWitness kiX0_hasWitness kl_X0_151 rfl rfl (As := [.int (zI w)]) rfl rfl rfl dX0_faultOfQuestion_10 13 rfl ?_
    show V p l e (rmL 2 0 0) s m args below meth cd Q 4 s.heap [] 0 0 13 [(0, .ref b), (1, .int (zI k)), (2, .int (zI w))] [.int (zI (bz (0 ≤ w ∧ w < co 0 1)))]
    refine v_bif_ne X dX0_faultOfQuestion_13 16 20 rfl (by decide) (fun c_2 => ?_) (fun c_2 => ?_)
    · skip
      refine v_aload_n X dX0_faultOfQuestion_20 21 rfl 0 rfl ?_
      refine v_iload_n X dX0_faultOfQuestion_21 22 rfl 1 rfl ?_
      refine v_iload_n X dX0_faultOfQuestion_22 23 rfl 2 rfl ?_
      refine v_rdV X hC h_co (c_X0_hasHeard l E b co k w hO (by omega) (by omega) (by omega) (by omega)) kvX0_hasHeard kiX0_hasHeard kl_X0_164 rfl rfl (As := [.int (zI k), .int (zI w)]) rfl rfl rfl dX0_faultOfQuestion_23 26 rfl ?_
      show V p l e (rmL 2 0 0) s m args below meth cd Q 4 s.heap [] 0 0 26 [(0, .ref b), (1, .int (zI k)), (2, .int (zI w))] [.int (zI (bz (0 < co 9 (k * 8 + w))))]
      refine v_bif_ne X dX0_faultOfQuestion_26 29 33 rfl (by decide) (fun c_3 => ?_) (fun c_3 => ?_)
      · skip
        refine v_aload_n X dX0_faultOfQuestion_33 34 rfl 0 rfl ?_
        refine v_iload_n X dX0_faultOfQuestion_34 35 rfl 1 rfl ?_
        refine v_iload_n X dX0_faultOfQuestion_35 36 rfl 2 rfl ?_
        refine v_rdV X hC h_co (c_X0_questionsTo l E b co k w (by omega) (by omega) (by omega) (by omega)) kvX0_questionsTo kiX0_questionsTo kl_X0_170 rfl rfl (As := [.int (zI k), .int (zI w)]) rfl rfl rfl dX0_faultOfQuestion_36 39 rfl ?_
        show V p l e (rmL 2 0 0) s m args below meth cd Q 4 s.heap [] 0 0 39 [(0, .ref b), (1, .int (zI k)), (2, .int (zI w))] [.int (zI (co 10 (k * 8 + w)))]
        have hb_4 := hO.b10 (k * 8 + w)
        refine v_iconst X dX0_faultOfQuestion_39 40 rfl ?_
        refine v_icmp_lt X (by omega) (by omega) dX0_faultOfQuestion_40 43 47 rfl (by decide) (fun c_5 => ?_) (fun c_5 => ?_)
        · skip
          refine v_iconst X dX0_faultOfQuestion_47 48 rfl ?_
          refine v_istore_n X dX0_faultOfQuestion_48 49 rfl rfl (by decide) (L' := [(3, .int (zI 0)), (0, .ref b), (1, .int (zI k)), (2, .int (zI w))]) rfl ?_
          refine v_aload_n X dX0_faultOfQuestion_49 50 rfl 1 rfl ?_
          refine v_iconst X dX0_faultOfQuestion_50 51 rfl ?_
          refine v_iload_n X dX0_faultOfQuestion_51 52 rfl 2 rfl ?_
          refine v_rdV X hC h_co (c_X0_isIn l E b co 0 k hO (by omega) (by omega) (by omega)) kvX0_isIn kiX0_isIn kl_X0_160 rfl rfl (As := [.int (zI 0), .int (zI k)]) rfl rfl rfl dX0_faultOfQuestion_52 55 rfl ?_
          show V p l e (rmL 2 0 0) s m args below meth cd Q 4 s.heap [] 0 0 55 [(3, .int (zI 0)), (0, .ref b), (1, .int (zI k)), (2, .int (zI w))] [.int (zI (bz (co 3 k = 0)))]
          refine v_bif_eq X dX0_faultOfQuestion_55 58 62 rfl (by decide) (fun c_6 => ?_) (fun c_6 => ?_)
          · skip
            refine v_flt X (MS0 hC) 4 (by decide) kf_X0_142 dX0_faultOfQuestion_62 65 rfl ?_
            refine v_goto X dX0_faultOfQuestion_65 71 (by decide) ?_
            refine V_S (st' := [.ref (E 103 (fQu co k w))]) (by rw [show (fQu co k w) = 4 by unfold fQu; (repeat' split) <;> omega]) ?_
            subst hQ; exact v_aret0 X hr (Or.inl ⟨_, rfl⟩) hlk dX0_faultOfQuestion_71 (Or.inr ⟨_, rfl⟩)
          · skip
            refine v_iload_n X dX0_faultOfQuestion_58 59 rfl 0 rfl ?_
            refine v_if_eq X (by omega) dX0_faultOfQuestion_59 62 68 rfl (by decide) (fun c_7 => ?_) (fun c_7 => ?_)
            · skip
              refine v_flt X (MS0 hC) 0 (by decide) kf_X0_145 dX0_faultOfQuestion_68 71 rfl ?_
              refine V_S (st' := [.ref (E 103 (fQu co k w))]) (by rw [show (fQu co k w) = 0 by unfold fQu; (repeat' split) <;> omega]) ?_
              subst hQ; exact v_aret0 X hr (Or.inl ⟨_, rfl⟩) hlk dX0_faultOfQuestion_71 (Or.inr ⟨_, rfl⟩)
            · skip
              exfalso; omega
        · skip
          refine v_iconst X dX0_faultOfQuestion_43 44 rfl ?_
          refine v_goto X dX0_faultOfQuestion_44 48 (by decide) ?_
          refine v_istore_n X dX0_faultOfQuestion_48 49 rfl rfl (by decide) (L' := [(3, .int (zI 1)), (0, .ref b), (1, .int (zI k)), (2, .int (zI w))]) rfl ?_
          refine v_aload_n X dX0_faultOfQuestion_49 50 rfl 1 rfl ?_
          refine v_iconst X dX0_faultOfQuestion_50 51 rfl ?_
          refine v_iload_n X dX0_faultOfQuestion_51 52 rfl 2 rfl ?_
          refine v_rdV X hC h_co (c_X0_isIn l E b co 0 k hO (by omega) (by omega) (by omega)) kvX0_isIn kiX0_isIn kl_X0_160 rfl rfl (As := [.int (zI 0), .int (zI k)]) rfl rfl rfl dX0_faultOfQuestion_52 55 rfl ?_
          show V p l e (rmL 2 0 0) s m args below meth cd Q 4 s.heap [] 0 0 55 [(3, .int (zI 1)), (0, .ref b), (1, .int (zI k)), (2, .int (zI w))] [.int (zI (bz (co 3 k = 0)))]
          refine v_bif_eq X dX0_faultOfQuestion_55 58 62 rfl (by decide) (fun c_8 => ?_) (fun c_8 => ?_)
          · skip
            refine v_flt X (MS0 hC) 4 (by decide) kf_X0_142 dX0_faultOfQuestion_62 65 rfl ?_
            refine v_goto X dX0_faultOfQuestion_65 71 (by decide) ?_
            refine V_S (st' := [.ref (E 103 (fQu co k w))]) (by rw [show (fQu co k w) = 4 by unfold fQu; (repeat' split) <;> omega]) ?_
            subst hQ; exact v_aret0 X hr (Or.inl ⟨_, rfl⟩) hlk dX0_faultOfQuestion_71 (Or.inr ⟨_, rfl⟩)
          · skip
            refine v_iload_n X dX0_faultOfQuestion_58 59 rfl 0 rfl ?_
            refine v_if_eq X (by omega) dX0_faultOfQuestion_59 62 68 rfl (by decide) (fun c_9 => ?_) (fun c_9 => ?_)
            · skip
              exfalso; omega
            · skip
              refine v_flt X (MS0 hC) 4 (by decide) kf_X0_142 dX0_faultOfQuestion_62 65 rfl ?_
              refine v_goto X dX0_faultOfQuestion_65 71 (by decide) ?_
              refine V_S (st' := [.ref (E 103 (fQu co k w))]) (by rw [show (fQu co k w) = 4 by unfold fQu; (repeat' split) <;> omega]) ?_
              subst hQ; exact v_aret0 X hr (Or.inl ⟨_, rfl⟩) hlk dX0_faultOfQuestion_71 (Or.inr ⟨_, rfl⟩)
      · skip
        refine v_flt X (MS0 hC) 3 (by decide) kf_X0_167 dX0_faultOfQuestion_29 32 rfl ?_
        refine V_S (st' := [.ref (E 103 (fQu co k w))]) (by rw [show (fQu co k w) = 3 by unfold fQu; (repeat' split) <;> omega]) ?_
        subst hQ; exact v_aret0 X hr (Or.inl ⟨_, rfl⟩) hlk dX0_faultOfQuestion_32 (Or.inr ⟨_, rfl⟩)
    · skip
      refine v_flt X (MS0 hC) 1 (by decide) kf_X0_154 dX0_faultOfQuestion_16 19 rfl ?_
      refine V_S (st' := [.ref (E 103 (fQu co k w))]) (by rw [show (fQu co k w) = 1 by unfold fQu; (repeat' split) <;> omega]) ?_
      subst hQ; exact v_aret0 X hr (Or.inl ⟨_, rfl⟩) hlk dX0_faultOfQuestion_19 (Or.inr ⟨_, rfl⟩)
set_option maxHeartbeats 4000000 in
set_option maxRecDepth 20000 in
theorem c_X0_faultOfDecision (l : Launch) (E : Nat → Nat → Nat) (b : Nat) (co : Nat → Int → Int) (k : Int) (hO : OkC co) (hk : Rg k) : Rd l yX0_faultOfDecision cX0_faultOfDecision 3 (some (.object "CaseManager$Fault")) 2 E [.ref b, .int (zI k)] (courtW E b co) (some (.ref (E 103 (fDe co k)))) := by
  refine Rd.start (own := RX0) rfl (by decide +kernel) (Nat.le_of_ble_eq_true rfl) ?_
  intro p e s m below meth cd args Q hQ X hr hlk hC hP
  have h_co := hP
  have hb0 := hO.b0
  have hbw := hO.bw
  refine v_aload_n X dX0_faultOfDecision_0 1 rfl 0 rfl ?_
  refine v_iload_n X dX0_faultOfDecision_1 2 rfl 1 rfl ?_
  refine v_rdV X hC h_co (c_X0_hasCase l E b co k hO hk) kvX0_hasCase kiX0_hasCase kl_X0_148 rfl rfl (As := [.int (zI k)]) rfl rfl rfl dX0_faultOfDecision_2 5 rfl ?_
  show V p l e (rmL 2 0 0) s m args below meth cd Q 3 s.heap [] 0 0 5 [(0, .ref b), (1, .int (zI k))] [.int (zI (bz (0 ≤ k ∧ k < co 0 0)))]
  refine v_bif_ne X dX0_faultOfDecision_5 8 12 rfl (by decide) (fun c_1 => ?_) (fun c_1 => ?_)
  · skip
    refine v_aload_n X dX0_faultOfDecision_12 13 rfl 0 rfl ?_
    refine v_iconst X dX0_faultOfDecision_13 14 rfl ?_
    refine v_iload_n X dX0_faultOfDecision_14 15 rfl 1 rfl ?_
    refine v_rdV X hC h_co (c_X0_isIn l E b co 0 k hO (by omega) (by omega) (by omega)) kvX0_isIn kiX0_isIn kl_X0_160 rfl rfl (As := [.int (zI 0), .int (zI k)]) rfl rfl rfl dX0_faultOfDecision_15 18 rfl ?_
    show V p l e (rmL 2 0 0) s m args below meth cd Q 3 s.heap [] 0 0 18 [(0, .ref b), (1, .int (zI k))] [.int (zI (bz (co 3 k = 0)))]
    refine v_bif_eq X dX0_faultOfDecision_18 21 36 rfl (by decide) (fun c_2 => ?_) (fun c_2 => ?_)
    · skip
      refine v_iconst X dX0_faultOfDecision_36 37 rfl ?_
      refine v_istore_n X dX0_faultOfDecision_37 38 rfl rfl (by decide) (L' := [(2, .int (zI 0)), (0, .ref b), (1, .int (zI k))]) rfl ?_
      refine v_iload_n X dX0_faultOfDecision_38 39 rfl 0 rfl ?_
      refine v_if_eq X (by omega) dX0_faultOfDecision_39 42 48 rfl (by decide) (fun c_3 => ?_) (fun c_3 => ?_)
      · skip
        refine v_flt X (MS0 hC) 4 (by decide) kf_X0_142 dX0_faultOfDecision_48 51 rfl ?_
        refine V_S (st' := [.ref (E 103 (fDe co k))]) (by rw [show (fDe co k) = 4 by unfold fDe; (repeat' split) <;> omega]) ?_
        subst hQ; exact v_aret0 X hr (Or.inl ⟨_, rfl⟩) hlk dX0_faultOfDecision_51 (Or.inr ⟨_, rfl⟩)
      · skip
        exfalso; omega
    · skip
      refine v_aload_n X dX0_faultOfDecision_21 22 rfl 0 rfl ?_
      refine v_getf X hC h_co inX0 0 rfl rfl 9 (by decide) kf_X0_45 (fun _ h => h) rfl dX0_faultOfDecision_22 25 rfl ?_
      refine v_iload_n X dX0_faultOfDecision_25 26 rfl 1 rfl ?_
      refine v_rdV X hC (PW.part h_co 11 2 (wc := rowW E (b + 11) 16 (co 6)) rfl) (c_X6_get l E (b + 11) 16 (co 6) k (by omega) (by omega) (by omega)) kvX6_get kiX6_get kl_X0_157 rfl rfl (As := [.int (zI k)]) rfl rfl rfl dX0_faultOfDecision_26 29 rfl ?_
      show V p l e (rmL 2 0 0) s m args below meth cd Q 3 s.heap [] 0 0 29 [(0, .ref b), (1, .int (zI k))] [.int (zI (co 6 k))]
      have hb_4 := hO.b6 k
      refine v_if_le X (by omega) dX0_faultOfDecision_29 32 36 rfl (by decide) (fun c_5 => ?_) (fun c_5 => ?_)
      · skip
        refine v_iconst X dX0_faultOfDecision_36 37 rfl ?_
        refine v_istore_n X dX0_faultOfDecision_37 38 rfl rfl (by decide) (L' := [(2, .int (zI 0)), (0, .ref b), (1, .int (zI k))]) rfl ?_
        refine v_iload_n X dX0_faultOfDecision_38 39 rfl 0 rfl ?_
        refine v_if_eq X (by omega) dX0_faultOfDecision_39 42 48 rfl (by decide) (fun c_6 => ?_) (fun c_6 => ?_)
        · skip
          refine v_flt X (MS0 hC) 4 (by decide) kf_X0_142 dX0_faultOfDecision_48 51 rfl ?_
          refine V_S (st' := [.ref (E 103 (fDe co k))]) (by rw [show (fDe co k) = 4 by unfold fDe; (repeat' split) <;> omega]) ?_
          subst hQ; exact v_aret0 X hr (Or.inl ⟨_, rfl⟩) hlk dX0_faultOfDecision_51 (Or.inr ⟨_, rfl⟩)
        · skip
          exfalso; omega
      · skip
        refine v_iconst X dX0_faultOfDecision_32 33 rfl ?_
        refine v_goto X dX0_faultOfDecision_33 37 (by decide) ?_
        refine v_istore_n X dX0_faultOfDecision_37 38 rfl rfl (by decide) (L' := [(2, .int (zI 1)), (0, .ref b), (1, .int (zI k))]) rfl ?_
        refine v_iload_n X dX0_faultOfDecision_38 39 rfl 0 rfl ?_
        refine v_if_eq X (by omega) dX0_faultOfDecision_39 42 48 rfl (by decide) (fun c_7 => ?_) (fun c_7 => ?_)
        · skip
          exfalso; omega
        · skip
          refine v_flt X (MS0 hC) 0 (by decide) kf_X0_145 dX0_faultOfDecision_42 45 rfl ?_
          refine v_goto X dX0_faultOfDecision_45 51 (by decide) ?_
          refine V_S (st' := [.ref (E 103 (fDe co k))]) (by rw [show (fDe co k) = 0 by unfold fDe; (repeat' split) <;> omega]) ?_
          subst hQ; exact v_aret0 X hr (Or.inl ⟨_, rfl⟩) hlk dX0_faultOfDecision_51 (Or.inr ⟨_, rfl⟩)
  · skip
    refine v_flt X (MS0 hC) 1 (by decide) kf_X0_154 dX0_faultOfDecision_8 11 rfl ?_
    refine V_S (st' := [.ref (E 103 (fDe co k))]) (by rw [show (fDe co k) = 1 by unfold fDe; (repeat' split) <;> omega]) ?_
    subst hQ; exact v_aret0 X hr (Or.inl ⟨_, rfl⟩) hlk dX0_faultOfDecision_11 (Or.inr ⟨_, rfl⟩)
set_option maxHeartbeats 4000000 in
set_option maxRecDepth 20000 in
theorem c_X0_faultAfterVerdict (l : Launch) (E : Nat → Nat → Nat) (b : Nat) (co : Nat → Int → Int) (k : Int) (hO : OkC co) (hk : Rg k) : Rd l yX0_faultAfterVerdict cX0_faultAfterVerdict 2 (some (.object "CaseManager$Fault")) 2 E [.ref b, .int (zI k)] (courtW E b co) (some (.ref (E 103 (fAf co k)))) := by
  refine Rd.start (own := RX0) rfl (by decide +kernel) (Nat.le_of_ble_eq_true rfl) ?_
  intro p e s m below meth cd args Q hQ X hr hlk hC hP
  have h_co := hP
  have hb0 := hO.b0
  have hbw := hO.bw
  refine v_aload_n X dX0_faultAfterVerdict_0 1 rfl 0 rfl ?_
  refine v_iload_n X dX0_faultAfterVerdict_1 2 rfl 1 rfl ?_
  refine v_rdV X hC h_co (c_X0_hasCase l E b co k hO hk) kvX0_hasCase kiX0_hasCase kl_X0_148 rfl rfl (As := [.int (zI k)]) rfl rfl rfl dX0_faultAfterVerdict_2 5 rfl ?_
  show V p l e (rmL 2 0 0) s m args below meth cd Q 2 s.heap [] 0 0 5 [(0, .ref b), (1, .int (zI k))] [.int (zI (bz (0 ≤ k ∧ k < co 0 0)))]
  refine v_bif_ne X dX0_faultAfterVerdict_5 8 12 rfl (by decide) (fun c_1 => ?_) (fun c_1 => ?_)
  · skip
    refine v_aload_n X dX0_faultAfterVerdict_12 13 rfl 0 rfl ?_
    refine v_iconst X dX0_faultAfterVerdict_13 14 rfl ?_
    refine v_iload_n X dX0_faultAfterVerdict_14 15 rfl 1 rfl ?_
    refine v_rdV X hC h_co (c_X0_isIn l E b co 1 k hO (by omega) (by omega) (by omega)) kvX0_isIn kiX0_isIn kl_X0_160 rfl rfl (As := [.int (zI 1), .int (zI k)]) rfl rfl rfl dX0_faultAfterVerdict_15 18 rfl ?_
    show V p l e (rmL 2 0 0) s m args below meth cd Q 2 s.heap [] 0 0 18 [(0, .ref b), (1, .int (zI k))] [.int (zI (bz (co 3 k = 1)))]
    refine v_bif_eq X dX0_faultAfterVerdict_18 21 27 rfl (by decide) (fun c_2 => ?_) (fun c_2 => ?_)
    · skip
      refine v_flt X (MS0 hC) 4 (by decide) kf_X0_142 dX0_faultAfterVerdict_27 30 rfl ?_
      refine V_S (st' := [.ref (E 103 (fAf co k))]) (by rw [show (fAf co k) = 4 by unfold fAf; (repeat' split) <;> omega]) ?_
      subst hQ; exact v_aret0 X hr (Or.inl ⟨_, rfl⟩) hlk dX0_faultAfterVerdict_30 (Or.inr ⟨_, rfl⟩)
    · skip
      refine v_flt X (MS0 hC) 0 (by decide) kf_X0_145 dX0_faultAfterVerdict_21 24 rfl ?_
      refine v_goto X dX0_faultAfterVerdict_24 30 (by decide) ?_
      refine V_S (st' := [.ref (E 103 (fAf co k))]) (by rw [show (fAf co k) = 0 by unfold fAf; (repeat' split) <;> omega]) ?_
      subst hQ; exact v_aret0 X hr (Or.inl ⟨_, rfl⟩) hlk dX0_faultAfterVerdict_30 (Or.inr ⟨_, rfl⟩)
  · skip
    refine v_flt X (MS0 hC) 1 (by decide) kf_X0_154 dX0_faultAfterVerdict_8 11 rfl ?_
    refine V_S (st' := [.ref (E 103 (fAf co k))]) (by rw [show (fAf co k) = 1 by unfold fAf; (repeat' split) <;> omega]) ?_
    subst hQ; exact v_aret0 X hr (Or.inl ⟨_, rfl⟩) hlk dX0_faultAfterVerdict_11 (Or.inr ⟨_, rfl⟩)
set_option maxHeartbeats 4000000 in
set_option maxRecDepth 20000 in
theorem c_X0_faultOf0 (l : Launch) (E : Nat → Nat → Nat) (b : Nat) (co : Nat → Int → Int) (a : Int) (y : Int) (z : Int) (hO : OkC co) (ha : Rg a) (hy : Rg y) (hz : Rg z) : Rd l yX0_faultOf cX0_faultOf 5 (some (.object "CaseManager$Fault")) 8 E [.ref b, .int (zI 0), .int (zI a), .int (zI y), .int (zI z)] (courtW E b co) (some (.ref (E 103 (fCh co a y)))) := by
  refine Rd.start (own := RX0) rfl (by decide +kernel) (Nat.le_of_ble_eq_true rfl) ?_
  intro p e s m below meth cd args Q hQ X hr hlk hC hP
  have h_co := hP
  refine v_iload_n X dX0_faultOf_0 1 rfl 1 rfl ?_
  refine v_tabIn X (by omega) dX0_faultOf_1 (by omega) (by omega) 0 (by omega) (off := 35) rfl 36 (by decide) ?_
  refine v_aload_n X dX0_faultOf_36 37 rfl 0 rfl ?_
  refine v_iload_n X dX0_faultOf_37 38 rfl 2 rfl ?_
  refine v_iload_n X dX0_faultOf_38 39 rfl 3 rfl ?_
  refine v_rdV X hC h_co (c_X0_faultOfCharge l E b co a y hO ha hy) kvX0_faultOfCharge kiX0_faultOfCharge kl_X0_80 rfl rfl (As := [.int (zI a), .int (zI y)]) rfl rfl rfl dX0_faultOf_39 42 rfl ?_
  show V p l e (rmL 8 0 0) s m args below meth cd Q 5 s.heap [] 0 0 42 [(0, .ref b), (1, .int (zI 0)), (2, .int (zI a)), (3, .int (zI y)), (4, .int (zI z))] [.ref (E 103 (fCh co a y))]
  subst hQ; exact v_aret0 X hr (Or.inl ⟨_, rfl⟩) hlk dX0_faultOf_42 (Or.inr ⟨_, rfl⟩)
set_option maxHeartbeats 4000000 in
set_option maxRecDepth 20000 in
theorem c_X0_faultOf1 (l : Launch) (E : Nat → Nat → Nat) (b : Nat) (co : Nat → Int → Int) (a : Int) (y : Int) (z : Int) (hO : OkC co) (ha : Rg a) (hy : Rg y) (hz : Rg z) : Rd l yX0_faultOf cX0_faultOf 5 (some (.object "CaseManager$Fault")) 8 E [.ref b, .int (zI 1), .int (zI a), .int (zI y), .int (zI z)] (courtW E b co) (some (.ref (E 103 (fWi co a)))) := by
  refine Rd.start (own := RX0) rfl (by decide +kernel) (Nat.le_of_ble_eq_true rfl) ?_
  intro p e s m below meth cd args Q hQ X hr hlk hC hP
  have h_co := hP
  refine v_iload_n X dX0_faultOf_0 1 rfl 1 rfl ?_
  refine v_tabIn X (by omega) dX0_faultOf_1 (by omega) (by omega) 1 (by omega) (off := 42) rfl 43 (by decide) ?_
  refine v_aload_n X dX0_faultOf_43 44 rfl 0 rfl ?_
  refine v_iload_n X dX0_faultOf_44 45 rfl 2 rfl ?_
  refine v_rdV X hC h_co (c_X0_faultOfWitness l E b co a hO ha) kvX0_faultOfWitness kiX0_faultOfWitness kl_X0_84 rfl rfl (As := [.int (zI a)]) rfl rfl rfl dX0_faultOf_45 48 rfl ?_
  show V p l e (rmL 8 0 0) s m args below meth cd Q 5 s.heap [] 0 0 48 [(0, .ref b), (1, .int (zI 1)), (2, .int (zI a)), (3, .int (zI y)), (4, .int (zI z))] [.ref (E 103 (fWi co a))]
  subst hQ; exact v_aret0 X hr (Or.inl ⟨_, rfl⟩) hlk dX0_faultOf_48 (Or.inr ⟨_, rfl⟩)
set_option maxHeartbeats 4000000 in
set_option maxRecDepth 20000 in
theorem c_X0_faultOf2 (l : Launch) (E : Nat → Nat → Nat) (b : Nat) (co : Nat → Int → Int) (a : Int) (y : Int) (z : Int) (hO : OkC co) (ha : Rg a) (hy : Rg y) (hz : Rg z) : Rd l yX0_faultOf cX0_faultOf 5 (some (.object "CaseManager$Fault")) 8 E [.ref b, .int (zI 2), .int (zI a), .int (zI y), .int (zI z)] (courtW E b co) (some (.ref (E 103 (fTe co a y z)))) := by
  refine Rd.start (own := RX0) rfl (by decide +kernel) (Nat.le_of_ble_eq_true rfl) ?_
  intro p e s m below meth cd args Q hQ X hr hlk hC hP
  have h_co := hP
  refine v_iload_n X dX0_faultOf_0 1 rfl 1 rfl ?_
  refine v_tabIn X (by omega) dX0_faultOf_1 (by omega) (by omega) 2 (by omega) (off := 48) rfl 49 (by decide) ?_
  refine v_aload_n X dX0_faultOf_49 50 rfl 0 rfl ?_
  refine v_iload_n X dX0_faultOf_50 51 rfl 2 rfl ?_
  refine v_iload_n X dX0_faultOf_51 52 rfl 3 rfl ?_
  refine v_iload X dX0_faultOf_52 54 rfl 4 rfl ?_
  refine v_rdV X hC h_co (c_X0_faultOfTestimony l E b co a y z hO ha hy hz) kvX0_faultOfTestimony kiX0_faultOfTestimony kl_X0_88 rfl rfl (As := [.int (zI a), .int (zI y), .int (zI z)]) rfl rfl rfl dX0_faultOf_54 57 rfl ?_
  show V p l e (rmL 8 0 0) s m args below meth cd Q 5 s.heap [] 0 0 57 [(0, .ref b), (1, .int (zI 2)), (2, .int (zI a)), (3, .int (zI y)), (4, .int (zI z))] [.ref (E 103 (fTe co a y z))]
  subst hQ; exact v_aret0 X hr (Or.inl ⟨_, rfl⟩) hlk dX0_faultOf_57 (Or.inr ⟨_, rfl⟩)
set_option maxHeartbeats 4000000 in
set_option maxRecDepth 20000 in
theorem c_X0_faultOf3 (l : Launch) (E : Nat → Nat → Nat) (b : Nat) (co : Nat → Int → Int) (a : Int) (y : Int) (z : Int) (hO : OkC co) (ha : Rg a) (hy : Rg y) (hz : Rg z) : Rd l yX0_faultOf cX0_faultOf 5 (some (.object "CaseManager$Fault")) 8 E [.ref b, .int (zI 3), .int (zI a), .int (zI y), .int (zI z)] (courtW E b co) (some (.ref (E 103 (fQu co a y)))) := by
  refine Rd.start (own := RX0) rfl (by decide +kernel) (Nat.le_of_ble_eq_true rfl) ?_
  intro p e s m below meth cd args Q hQ X hr hlk hC hP
  have h_co := hP
  refine v_iload_n X dX0_faultOf_0 1 rfl 1 rfl ?_
  refine v_tabIn X (by omega) dX0_faultOf_1 (by omega) (by omega) 3 (by omega) (off := 57) rfl 58 (by decide) ?_
  refine v_aload_n X dX0_faultOf_58 59 rfl 0 rfl ?_
  refine v_iload_n X dX0_faultOf_59 60 rfl 2 rfl ?_
  refine v_iload_n X dX0_faultOf_60 61 rfl 3 rfl ?_
  refine v_rdV X hC h_co (c_X0_faultOfQuestion l E b co a y hO ha hy) kvX0_faultOfQuestion kiX0_faultOfQuestion kl_X0_92 rfl rfl (As := [.int (zI a), .int (zI y)]) rfl rfl rfl dX0_faultOf_61 64 rfl ?_
  show V p l e (rmL 8 0 0) s m args below meth cd Q 5 s.heap [] 0 0 64 [(0, .ref b), (1, .int (zI 3)), (2, .int (zI a)), (3, .int (zI y)), (4, .int (zI z))] [.ref (E 103 (fQu co a y))]
  subst hQ; exact v_aret0 X hr (Or.inl ⟨_, rfl⟩) hlk dX0_faultOf_64 (Or.inr ⟨_, rfl⟩)
set_option maxHeartbeats 4000000 in
set_option maxRecDepth 20000 in
theorem c_X0_faultOf4 (l : Launch) (E : Nat → Nat → Nat) (b : Nat) (co : Nat → Int → Int) (a : Int) (y : Int) (z : Int) (hO : OkC co) (ha : Rg a) (hy : Rg y) (hz : Rg z) : Rd l yX0_faultOf cX0_faultOf 5 (some (.object "CaseManager$Fault")) 8 E [.ref b, .int (zI 4), .int (zI a), .int (zI y), .int (zI z)] (courtW E b co) (some (.ref (E 103 (fDe co a)))) := by
  refine Rd.start (own := RX0) rfl (by decide +kernel) (Nat.le_of_ble_eq_true rfl) ?_
  intro p e s m below meth cd args Q hQ X hr hlk hC hP
  have h_co := hP
  refine v_iload_n X dX0_faultOf_0 1 rfl 1 rfl ?_
  refine v_tabIn X (by omega) dX0_faultOf_1 (by omega) (by omega) 4 (by omega) (off := 64) rfl 65 (by decide) ?_
  refine v_aload_n X dX0_faultOf_65 66 rfl 0 rfl ?_
  refine v_iload_n X dX0_faultOf_66 67 rfl 2 rfl ?_
  refine v_rdV X hC h_co (c_X0_faultOfDecision l E b co a hO ha) kvX0_faultOfDecision kiX0_faultOfDecision kl_X0_95 rfl rfl (As := [.int (zI a)]) rfl rfl rfl dX0_faultOf_67 70 rfl ?_
  show V p l e (rmL 8 0 0) s m args below meth cd Q 5 s.heap [] 0 0 70 [(0, .ref b), (1, .int (zI 4)), (2, .int (zI a)), (3, .int (zI y)), (4, .int (zI z))] [.ref (E 103 (fDe co a))]
  subst hQ; exact v_aret0 X hr (Or.inl ⟨_, rfl⟩) hlk dX0_faultOf_70 (Or.inr ⟨_, rfl⟩)
set_option maxHeartbeats 4000000 in
set_option maxRecDepth 20000 in
theorem c_X0_faultOf5 (l : Launch) (E : Nat → Nat → Nat) (b : Nat) (co : Nat → Int → Int) (a : Int) (y : Int) (z : Int) (hO : OkC co) (ha : Rg a) (hy : Rg y) (hz : Rg z) : Rd l yX0_faultOf cX0_faultOf 5 (some (.object "CaseManager$Fault")) 8 E [.ref b, .int (zI 5), .int (zI a), .int (zI y), .int (zI z)] (courtW E b co) (some (.ref (E 103 (fAf co a)))) := by
  refine Rd.start (own := RX0) rfl (by decide +kernel) (Nat.le_of_ble_eq_true rfl) ?_
  intro p e s m below meth cd args Q hQ X hr hlk hC hP
  have h_co := hP
  refine v_iload_n X dX0_faultOf_0 1 rfl 1 rfl ?_
  refine v_tabOut X (by omega) dX0_faultOf_1 (by omega) 71 (by decide) ?_
  refine v_aload_n X dX0_faultOf_71 72 rfl 0 rfl ?_
  refine v_iload_n X dX0_faultOf_72 73 rfl 2 rfl ?_
  refine v_rdV X hC h_co (c_X0_faultAfterVerdict l E b co a hO ha) kvX0_faultAfterVerdict kiX0_faultAfterVerdict kl_X0_98 rfl rfl (As := [.int (zI a)]) rfl rfl rfl dX0_faultOf_73 76 rfl ?_
  show V p l e (rmL 8 0 0) s m args below meth cd Q 5 s.heap [] 0 0 76 [(0, .ref b), (1, .int (zI 5)), (2, .int (zI a)), (3, .int (zI y)), (4, .int (zI z))] [.ref (E 103 (fAf co a))]
  subst hQ; exact v_aret0 X hr (Or.inl ⟨_, rfl⟩) hlk dX0_faultOf_76 (Or.inr ⟨_, rfl⟩)
set_option maxHeartbeats 4000000 in
set_option maxRecDepth 20000 in
theorem c_X0_faultOf6 (l : Launch) (E : Nat → Nat → Nat) (b : Nat) (co : Nat → Int → Int) (a : Int) (y : Int) (z : Int) (hO : OkC co) (ha : Rg a) (hy : Rg y) (hz : Rg z) : Rd l yX0_faultOf cX0_faultOf 5 (some (.object "CaseManager$Fault")) 8 E [.ref b, .int (zI 6), .int (zI a), .int (zI y), .int (zI z)] (courtW E b co) (some (.ref (E 103 (fAf co a)))) := by
  refine Rd.start (own := RX0) rfl (by decide +kernel) (Nat.le_of_ble_eq_true rfl) ?_
  intro p e s m below meth cd args Q hQ X hr hlk hC hP
  have h_co := hP
  refine v_iload_n X dX0_faultOf_0 1 rfl 1 rfl ?_
  refine v_tabOut X (by omega) dX0_faultOf_1 (by omega) 71 (by decide) ?_
  refine v_aload_n X dX0_faultOf_71 72 rfl 0 rfl ?_
  refine v_iload_n X dX0_faultOf_72 73 rfl 2 rfl ?_
  refine v_rdV X hC h_co (c_X0_faultAfterVerdict l E b co a hO ha) kvX0_faultAfterVerdict kiX0_faultAfterVerdict kl_X0_98 rfl rfl (As := [.int (zI a)]) rfl rfl rfl dX0_faultOf_73 76 rfl ?_
  show V p l e (rmL 8 0 0) s m args below meth cd Q 5 s.heap [] 0 0 76 [(0, .ref b), (1, .int (zI 6)), (2, .int (zI a)), (3, .int (zI y)), (4, .int (zI z))] [.ref (E 103 (fAf co a))]
  subst hQ; exact v_aret0 X hr (Or.inl ⟨_, rfl⟩) hlk dX0_faultOf_76 (Or.inr ⟨_, rfl⟩)
set_option maxHeartbeats 4000000 in
set_option maxRecDepth 20000 in
theorem c_X0_perform0_0 (l : Launch) (E : Nat → Nat → Nat) (b : Nat) (co : Nat → Int → Int) (a : Int) (y : Int) (z : Int) (hO : OkC co) (ha : Rg a) (hy : Rg y) (hz : Rg z) (hc : co 0 0 < 16) : Mu l yX0_perform cX0_perform 6 (some .int) 8 0 0 E [(b, 28)] [.ref b, .int (zI 0), .int (zI a), .int (zI y), .int (zI 0), .int (zI z)] (fun H => PR E b (courtW E b co) H) (fun rv H => rv = some (.int (zI (co 0 0))) ∧ PR E b (courtW E b (openC co a y)) H) := by
  refine Mu.start (own := RX0) rfl (by decide +kernel) (Nat.le_of_ble_eq_true rfl) ?_
  intro p e s m below meth cd args Q hQ X hr hlk hnm hM hPr
  have h_co := hPr
  have hb0 := hO.b0
  have hbw := hO.bw
  refine v_iload_n X dX0_perform_0 1 rfl 1 rfl ?_
  refine v_tabIn X (by omega) dX0_perform_1 (by omega) (by omega) 0 (by omega) (off := 39) rfl 40 (by decide) ?_
  refine v_aload_n X dX0_perform_40 41 rfl 0 rfl ?_
  refine v_iload_n X dX0_perform_41 42 rfl 2 rfl ?_
  refine v_iload_n X dX0_perform_42 43 rfl 3 rfl ?_
  refine v_muV X hM (h_co.1) (c_X0_openCase l E b co a y hO hc) kvX0_openCase kiX0_openCase kl_X0_101 (q0 := 0) rfl rfl (As := [.int (zI a), .int (zI y)]) rfl rfl rfl dX0_perform_43 46 rfl (k' := 0) (n' := 0) rfl rfl (fsI (fun q q1 q2 => (Or.inl (fsH (by omega) (by omega))))) h_co (fun rv H1 lo1 hM hF hpo => ?_)
  obtain ⟨rfl, hw_0⟩ := hpo
  have h_co : PR E b (courtW E b (openC co a y)) H1 := hw_0
  show V p l e (rmL 8 0 0) s m args below meth cd Q 6 H1 lo1 0 0 46 [(0, .ref b), (1, .int (zI 0)), (2, .int (zI a)), (3, .int (zI y)), (4, .int (zI 0)), (5, .int (zI z))] [.int (zI (co 0 0))]
  have hb_2 := hO.b0
  subst hQ; exact m_iret X hr hlk hM dX0_perform_46 rfl ⟨rfl, h_co⟩
set_option maxHeartbeats 4000000 in
set_option maxRecDepth 20000 in
theorem c_X0_perform1_0 (l : Launch) (E : Nat → Nat → Nat) (b : Nat) (co : Nat → Int → Int) (a : Int) (y : Int) (z : Int) (hO : OkC co) (ha : Rg a) (hy : Rg y) (hz : Rg z) (hc : co 0 1 < 8) : Mu l yX0_perform cX0_perform 6 (some .int) 8 0 0 E [(b, 28)] [.ref b, .int (zI 1), .int (zI a), .int (zI y), .int (zI 0), .int (zI z)] (fun H => PR E b (courtW E b co) H) (fun rv H => rv = some (.int (zI (co 0 1))) ∧ PR E b (courtW E b (registerC co a)) H) := by
  refine Mu.start (own := RX0) rfl (by decide +kernel) (Nat.le_of_ble_eq_true rfl) ?_
  intro p e s m below meth cd args Q hQ X hr hlk hnm hM hPr
  have h_co := hPr
  have hb0 := hO.b0
  have hbw := hO.bw
  refine v_iload_n X dX0_perform_0 1 rfl 1 rfl ?_
  refine v_tabIn X (by omega) dX0_perform_1 (by omega) (by omega) 1 (by omega) (off := 46) rfl 47 (by decide) ?_
  refine v_aload_n X dX0_perform_47 48 rfl 0 rfl ?_
  refine v_iload_n X dX0_perform_48 49 rfl 2 rfl ?_
  refine v_muV X hM (h_co.1) (c_X0_register l E b co a hO hc) kvX0_register kiX0_register kl_X0_105 (q0 := 0) rfl rfl (As := [.int (zI a)]) rfl rfl rfl dX0_perform_49 52 rfl (k' := 0) (n' := 0) rfl rfl (fsI (fun q q1 q2 => (Or.inl (fsH (by omega) (by omega))))) h_co (fun rv H1 lo1 hM hF hpo => ?_)
  obtain ⟨rfl, hw_0⟩ := hpo
  have h_co : PR E b (courtW E b (registerC co a)) H1 := hw_0
  show V p l e (rmL 8 0 0) s m args below meth cd Q 6 H1 lo1 0 0 52 [(0, .ref b), (1, .int (zI 1)), (2, .int (zI a)), (3, .int (zI y)), (4, .int (zI 0)), (5, .int (zI z))] [.int (zI (co 0 1))]
  have hb_2 := hO.bw
  subst hQ; exact m_iret X hr hlk hM dX0_perform_52 rfl ⟨rfl, h_co⟩
set_option maxHeartbeats 4000000 in
set_option maxRecDepth 20000 in
theorem c_X0_perform2_0 (l : Launch) (E : Nat → Nat → Nat) (b : Nat) (co : Nat → Int → Int) (a : Int) (y : Int) (z : Int) (hO : OkC co) (ha : Rg a) (hy : Rg y) (hz : Rg z) (a0 : 0 ≤ a) (a1 : a < 16) (y0 : 0 ≤ y) (y1 : y < 8) (hs : co 6 a < 6) : Mu l yX0_perform cX0_perform 6 (some .int) 8 0 0 E [(b, 28)] [.ref b, .int (zI 2), .int (zI a), .int (zI y), .int (zI 0), .int (zI z)] (fun H => PR E b (courtW E b co) H) (fun rv H => rv = some (.int (zI (co 6 a + 1))) ∧ PR E b (courtW E b (hearC0 co a y z)) H) := by
  refine Mu.start (own := RX0) rfl (by decide +kernel) (Nat.le_of_ble_eq_true rfl) ?_
  intro p e s m below meth cd args Q hQ X hr hlk hnm hM hPr
  have h_co := hPr
  have hb0 := hO.b0
  have hbw := hO.bw
  refine v_iload_n X dX0_perform_0 1 rfl 1 rfl ?_
  refine v_tabIn X (by omega) dX0_perform_1 (by omega) (by omega) 2 (by omega) (off := 52) rfl 53 (by decide) ?_
  refine v_aload_n X dX0_perform_53 54 rfl 0 rfl ?_
  refine v_iload_n X dX0_perform_54 55 rfl 2 rfl ?_
  refine v_iload_n X dX0_perform_55 56 rfl 3 rfl ?_
  refine v_iload X dX0_perform_56 58 rfl 4 rfl ?_
  refine v_iload X dX0_perform_58 60 rfl 5 rfl ?_
  refine v_muV X hM (h_co.1) (c_X0_hear0 l E b co a y z hO a0 a1 y0 y1 hs) kvX0_hear kiX0_hear kl_X0_109 (q0 := 0) rfl rfl (As := [.int (zI a), .int (zI y), .int (zI 0), .int (zI z)]) rfl rfl rfl dX0_perform_60 63 rfl (k' := 0) (n' := 0) rfl rfl (fsI (fun q q1 q2 => (Or.inl (fsH (by omega) (by omega))))) h_co (fun rv H1 lo1 hM hF hpo => ?_)
  obtain ⟨rfl, hw_0⟩ := hpo
  have h_co : PR E b (courtW E b (hearC0 co a y z)) H1 := hw_0
  show V p l e (rmL 8 0 0) s m args below meth cd Q 6 H1 lo1 0 0 63 [(0, .ref b), (1, .int (zI 2)), (2, .int (zI a)), (3, .int (zI y)), (4, .int (zI 0)), (5, .int (zI z))] [.int (zI (co 6 a + 1))]
  have hb_2 := hO.b6 a
  subst hQ; exact m_iret X hr hlk hM dX0_perform_63 rfl ⟨rfl, h_co⟩
set_option maxHeartbeats 4000000 in
set_option maxRecDepth 20000 in
theorem c_X0_perform3_0 (l : Launch) (E : Nat → Nat → Nat) (b : Nat) (co : Nat → Int → Int) (a : Int) (y : Int) (z : Int) (hO : OkC co) (ha : Rg a) (hy : Rg y) (hz : Rg z) (a0 : 0 ≤ a) (a1 : a < 16) (y0 : 0 ≤ y) (y1 : y < 8) : Mu l yX0_perform cX0_perform 6 (some .int) 8 0 0 E [(b, 28)] [.ref b, .int (zI 3), .int (zI a), .int (zI y), .int (zI 0), .int (zI z)] (fun H => PR E b (courtW E b co) H) (fun rv H => rv = some (.int (zI (max (co 11 y - 2) 0))) ∧ PR E b (courtW E b (askC0 co a y)) H) := by
  refine Mu.start (own := RX0) rfl (by decide +kernel) (Nat.le_of_ble_eq_true rfl) ?_
  intro p e s m below meth cd args Q hQ X hr hlk hnm hM hPr
  have h_co := hPr
  have hb0 := hO.b0
  have hbw := hO.bw
  refine v_iload_n X dX0_perform_0 1 rfl 1 rfl ?_
  refine v_tabIn X (by omega) dX0_perform_1 (by omega) (by omega) 3 (by omega) (off := 63) rfl 64 (by decide) ?_
  refine v_aload_n X dX0_perform_64 65 rfl 0 rfl ?_
  refine v_iload_n X dX0_perform_65 66 rfl 2 rfl ?_
  refine v_iload_n X dX0_perform_66 67 rfl 3 rfl ?_
  refine v_iload X dX0_perform_67 69 rfl 4 rfl ?_
  refine v_muV X hM (h_co.1) (c_X0_ask0 l E b co a y hO a0 a1 y0 y1) kvX0_ask kiX0_ask kl_X0_113 (q0 := 0) rfl rfl (As := [.int (zI a), .int (zI y), .int (zI 0)]) rfl rfl rfl dX0_perform_69 72 rfl (k' := 0) (n' := 0) rfl rfl (fsI (fun q q1 q2 => (Or.inl (fsH (by omega) (by omega))))) h_co (fun rv H1 lo1 hM hF hpo => ?_)
  obtain ⟨rfl, hw_0⟩ := hpo
  have h_co : PR E b (courtW E b (askC0 co a y)) H1 := hw_0
  show V p l e (rmL 8 0 0) s m args below meth cd Q 6 H1 lo1 0 0 72 [(0, .ref b), (1, .int (zI 3)), (2, .int (zI a)), (3, .int (zI y)), (4, .int (zI 0)), (5, .int (zI z))] [.int (zI (max (co 11 y - 2) 0))]
  have hb_2 := hO.b11 y
  subst hQ; exact m_iret X hr hlk hM dX0_perform_72 rfl ⟨rfl, h_co⟩
set_option maxHeartbeats 4000000 in
set_option maxRecDepth 20000 in
theorem c_X0_perform4_11_0 (l : Launch) (E : Nat → Nat → Nat) (b : Nat) (co : Nat → Int → Int) (a : Int) (y : Int) (z : Int) (hO : OkC co) (ha : Rg a) (hy : Rg y) (hz : Rg z) (a0 : 0 ≤ a) (a1 : a < 16) (hg : 0 < mgC co a) (hla : 2 ≤ co 5 a) : Mu l yX0_perform cX0_perform 6 (some .int) 8 0 0 E [(b, 28)] [.ref b, .int (zI 4), .int (zI a), .int (zI y), .int (zI 0), .int (zI z)] (fun H => PR E b (courtW E b co) H) (fun rv H => rv = some (.int (zI 1)) ∧ PR E b (courtW E b (judgeC11 co a)) H) := by
  refine Mu.start (own := RX0) rfl (by decide +kernel) (Nat.le_of_ble_eq_true rfl) ?_
  intro p e s m below meth cd args Q hQ X hr hlk hnm hM hPr
  have h_co := hPr
  have hb0 := hO.b0
  have hbw := hO.bw
  refine v_iload_n X dX0_perform_0 1 rfl 1 rfl ?_
  refine v_tabIn X (by omega) dX0_perform_1 (by omega) (by omega) 4 (by omega) (off := 72) rfl 73 (by decide) ?_
  refine v_aload_n X dX0_perform_73 74 rfl 0 rfl ?_
  refine v_iload_n X dX0_perform_74 75 rfl 2 rfl ?_
  refine v_muV X hM (h_co.1) (c_X0_judge11 l E b co a hO a0 a1 hg hla) kvX0_judge kiX0_judge kl_X0_117 (q0 := 0) rfl rfl (As := [.int (zI a)]) rfl rfl rfl dX0_perform_75 78 rfl (k' := 0) (n' := 0) rfl rfl (fsI (fun q q1 q2 => (Or.inl (fsH (by omega) (by omega))))) h_co (fun rv H1 lo1 hM hF hpo => ?_)
  obtain ⟨rfl, hw_0⟩ := hpo
  have h_co : PR E b (courtW E b (judgeC11 co a)) H1 := hw_0
  show V p l e (rmL 8 0 0) s m args below meth cd Q 6 H1 lo1 0 0 78 [(0, .ref b), (1, .int (zI 4)), (2, .int (zI a)), (3, .int (zI y)), (4, .int (zI 0)), (5, .int (zI z))] [.int (zI 1)]
  subst hQ; exact m_iret X hr hlk hM dX0_perform_78 rfl ⟨rfl, h_co⟩
set_option maxHeartbeats 4000000 in
set_option maxRecDepth 20000 in
theorem c_X0_perform4_10_0 (l : Launch) (E : Nat → Nat → Nat) (b : Nat) (co : Nat → Int → Int) (a : Int) (y : Int) (z : Int) (hO : OkC co) (ha : Rg a) (hy : Rg y) (hz : Rg z) (a0 : 0 ≤ a) (a1 : a < 16) (hg : 0 < mgC co a) (hla : co 5 a < 2) : Mu l yX0_perform cX0_perform 6 (some .int) 8 0 0 E [(b, 28)] [.ref b, .int (zI 4), .int (zI a), .int (zI y), .int (zI 0), .int (zI z)] (fun H => PR E b (courtW E b co) H) (fun rv H => rv = some (.int (zI 1)) ∧ PR E b (courtW E b (judgeC10 co a)) H) := by
  refine Mu.start (own := RX0) rfl (by decide +kernel) (Nat.le_of_ble_eq_true rfl) ?_
  intro p e s m below meth cd args Q hQ X hr hlk hnm hM hPr
  have h_co := hPr
  have hb0 := hO.b0
  have hbw := hO.bw
  refine v_iload_n X dX0_perform_0 1 rfl 1 rfl ?_
  refine v_tabIn X (by omega) dX0_perform_1 (by omega) (by omega) 4 (by omega) (off := 72) rfl 73 (by decide) ?_
  refine v_aload_n X dX0_perform_73 74 rfl 0 rfl ?_
  refine v_iload_n X dX0_perform_74 75 rfl 2 rfl ?_
  refine v_muV X hM (h_co.1) (c_X0_judge10 l E b co a hO a0 a1 hg hla) kvX0_judge kiX0_judge kl_X0_117 (q0 := 0) rfl rfl (As := [.int (zI a)]) rfl rfl rfl dX0_perform_75 78 rfl (k' := 0) (n' := 0) rfl rfl (fsI (fun q q1 q2 => (Or.inl (fsH (by omega) (by omega))))) h_co (fun rv H1 lo1 hM hF hpo => ?_)
  obtain ⟨rfl, hw_0⟩ := hpo
  have h_co : PR E b (courtW E b (judgeC10 co a)) H1 := hw_0
  show V p l e (rmL 8 0 0) s m args below meth cd Q 6 H1 lo1 0 0 78 [(0, .ref b), (1, .int (zI 4)), (2, .int (zI a)), (3, .int (zI y)), (4, .int (zI 0)), (5, .int (zI z))] [.int (zI 1)]
  subst hQ; exact m_iret X hr hlk hM dX0_perform_78 rfl ⟨rfl, h_co⟩
set_option maxHeartbeats 4000000 in
set_option maxRecDepth 20000 in
theorem c_X0_perform5_1_0 (l : Launch) (E : Nat → Nat → Nat) (b : Nat) (co : Nat → Int → Int) (a : Int) (y : Int) (z : Int) (hO : OkC co) (ha : Rg a) (hy : Rg y) (hz : Rg z) (a0 : 0 ≤ a) (a1 : a < 16) (hg : ¬ co 4 a = 0) : Mu l yX0_perform cX0_perform 6 (some .int) 8 0 0 E [(b, 28)] [.ref b, .int (zI 5), .int (zI a), .int (zI y), .int (zI 0), .int (zI z)] (fun H => PR E b (courtW E b co) H) (fun rv H => rv = some (.int (zI (co 5 a + 1))) ∧ PR E b (courtW E b (reopenC1 co a)) H) := by
  refine Mu.start (own := RX0) rfl (by decide +kernel) (Nat.le_of_ble_eq_true rfl) ?_
  intro p e s m below meth cd args Q hQ X hr hlk hnm hM hPr
  have h_co := hPr
  have hb0 := hO.b0
  have hbw := hO.bw
  refine v_iload_n X dX0_perform_0 1 rfl 1 rfl ?_
  refine v_tabIn X (by omega) dX0_perform_1 (by omega) (by omega) 5 (by omega) (off := 78) rfl 79 (by decide) ?_
  refine v_aload_n X dX0_perform_79 80 rfl 0 rfl ?_
  refine v_iload_n X dX0_perform_80 81 rfl 2 rfl ?_
  refine v_muV X hM (h_co.1) (c_X0_reopen1 l E b co a hO a0 a1 hg) kvX0_reopen kiX0_reopen kl_X0_120 (q0 := 0) rfl rfl (As := [.int (zI a)]) rfl rfl rfl dX0_perform_81 84 rfl (k' := 0) (n' := 0) rfl rfl (fsI (fun q q1 q2 => (Or.inl (fsH (by omega) (by omega))))) h_co (fun rv H1 lo1 hM hF hpo => ?_)
  obtain ⟨rfl, hw_0⟩ := hpo
  have h_co : PR E b (courtW E b (reopenC1 co a)) H1 := hw_0
  show V p l e (rmL 8 0 0) s m args below meth cd Q 6 H1 lo1 0 0 84 [(0, .ref b), (1, .int (zI 5)), (2, .int (zI a)), (3, .int (zI y)), (4, .int (zI 0)), (5, .int (zI z))] [.int (zI (co 5 a + 1))]
  have hb_2 := hO.b5 a
  subst hQ; exact m_iret X hr hlk hM dX0_perform_84 rfl ⟨rfl, h_co⟩
set_option maxHeartbeats 4000000 in
set_option maxRecDepth 20000 in
theorem c_X0_perform4_01_0 (l : Launch) (E : Nat → Nat → Nat) (b : Nat) (co : Nat → Int → Int) (a : Int) (y : Int) (z : Int) (hO : OkC co) (ha : Rg a) (hy : Rg y) (hz : Rg z) (a0 : 0 ≤ a) (a1 : a < 16) (hg : mgC co a ≤ 0) (hla : 2 ≤ co 5 a) : Mu l yX0_perform cX0_perform 6 (some .int) 8 0 0 E [(b, 28)] [.ref b, .int (zI 4), .int (zI a), .int (zI y), .int (zI 0), .int (zI z)] (fun H => PR E b (courtW E b co) H) (fun rv H => rv = some (.int (zI 0)) ∧ PR E b (courtW E b (judgeC01 co a)) H) := by
  refine Mu.start (own := RX0) rfl (by decide +kernel) (Nat.le_of_ble_eq_true rfl) ?_
  intro p e s m below meth cd args Q hQ X hr hlk hnm hM hPr
  have h_co := hPr
  have hb0 := hO.b0
  have hbw := hO.bw
  refine v_iload_n X dX0_perform_0 1 rfl 1 rfl ?_
  refine v_tabIn X (by omega) dX0_perform_1 (by omega) (by omega) 4 (by omega) (off := 72) rfl 73 (by decide) ?_
  refine v_aload_n X dX0_perform_73 74 rfl 0 rfl ?_
  refine v_iload_n X dX0_perform_74 75 rfl 2 rfl ?_
  refine v_muV X hM (h_co.1) (c_X0_judge01 l E b co a hO a0 a1 hg hla) kvX0_judge kiX0_judge kl_X0_117 (q0 := 0) rfl rfl (As := [.int (zI a)]) rfl rfl rfl dX0_perform_75 78 rfl (k' := 0) (n' := 0) rfl rfl (fsI (fun q q1 q2 => (Or.inl (fsH (by omega) (by omega))))) h_co (fun rv H1 lo1 hM hF hpo => ?_)
  obtain ⟨rfl, hw_0⟩ := hpo
  have h_co : PR E b (courtW E b (judgeC01 co a)) H1 := hw_0
  show V p l e (rmL 8 0 0) s m args below meth cd Q 6 H1 lo1 0 0 78 [(0, .ref b), (1, .int (zI 4)), (2, .int (zI a)), (3, .int (zI y)), (4, .int (zI 0)), (5, .int (zI z))] [.int (zI 0)]
  subst hQ; exact m_iret X hr hlk hM dX0_perform_78 rfl ⟨rfl, h_co⟩
set_option maxHeartbeats 4000000 in
set_option maxRecDepth 20000 in
theorem c_X0_perform4_00_0 (l : Launch) (E : Nat → Nat → Nat) (b : Nat) (co : Nat → Int → Int) (a : Int) (y : Int) (z : Int) (hO : OkC co) (ha : Rg a) (hy : Rg y) (hz : Rg z) (a0 : 0 ≤ a) (a1 : a < 16) (hg : mgC co a ≤ 0) (hla : co 5 a < 2) : Mu l yX0_perform cX0_perform 6 (some .int) 8 0 0 E [(b, 28)] [.ref b, .int (zI 4), .int (zI a), .int (zI y), .int (zI 0), .int (zI z)] (fun H => PR E b (courtW E b co) H) (fun rv H => rv = some (.int (zI 0)) ∧ PR E b (courtW E b (judgeC00 co a)) H) := by
  refine Mu.start (own := RX0) rfl (by decide +kernel) (Nat.le_of_ble_eq_true rfl) ?_
  intro p e s m below meth cd args Q hQ X hr hlk hnm hM hPr
  have h_co := hPr
  have hb0 := hO.b0
  have hbw := hO.bw
  refine v_iload_n X dX0_perform_0 1 rfl 1 rfl ?_
  refine v_tabIn X (by omega) dX0_perform_1 (by omega) (by omega) 4 (by omega) (off := 72) rfl 73 (by decide) ?_
  refine v_aload_n X dX0_perform_73 74 rfl 0 rfl ?_
  refine v_iload_n X dX0_perform_74 75 rfl 2 rfl ?_
  refine v_muV X hM (h_co.1) (c_X0_judge00 l E b co a hO a0 a1 hg hla) kvX0_judge kiX0_judge kl_X0_117 (q0 := 0) rfl rfl (As := [.int (zI a)]) rfl rfl rfl dX0_perform_75 78 rfl (k' := 0) (n' := 0) rfl rfl (fsI (fun q q1 q2 => (Or.inl (fsH (by omega) (by omega))))) h_co (fun rv H1 lo1 hM hF hpo => ?_)
  obtain ⟨rfl, hw_0⟩ := hpo
  have h_co : PR E b (courtW E b (judgeC00 co a)) H1 := hw_0
  show V p l e (rmL 8 0 0) s m args below meth cd Q 6 H1 lo1 0 0 78 [(0, .ref b), (1, .int (zI 4)), (2, .int (zI a)), (3, .int (zI y)), (4, .int (zI 0)), (5, .int (zI z))] [.int (zI 0)]
  subst hQ; exact m_iret X hr hlk hM dX0_perform_78 rfl ⟨rfl, h_co⟩
set_option maxHeartbeats 4000000 in
set_option maxRecDepth 20000 in
theorem c_X0_perform5_0_0 (l : Launch) (E : Nat → Nat → Nat) (b : Nat) (co : Nat → Int → Int) (a : Int) (y : Int) (z : Int) (hO : OkC co) (ha : Rg a) (hy : Rg y) (hz : Rg z) (a0 : 0 ≤ a) (a1 : a < 16) (hg : co 4 a = 0) : Mu l yX0_perform cX0_perform 6 (some .int) 8 0 0 E [(b, 28)] [.ref b, .int (zI 5), .int (zI a), .int (zI y), .int (zI 0), .int (zI z)] (fun H => PR E b (courtW E b co) H) (fun rv H => rv = some (.int (zI (co 5 a + 1))) ∧ PR E b (courtW E b (reopenC0 co a)) H) := by
  refine Mu.start (own := RX0) rfl (by decide +kernel) (Nat.le_of_ble_eq_true rfl) ?_
  intro p e s m below meth cd args Q hQ X hr hlk hnm hM hPr
  have h_co := hPr
  have hb0 := hO.b0
  have hbw := hO.bw
  refine v_iload_n X dX0_perform_0 1 rfl 1 rfl ?_
  refine v_tabIn X (by omega) dX0_perform_1 (by omega) (by omega) 5 (by omega) (off := 78) rfl 79 (by decide) ?_
  refine v_aload_n X dX0_perform_79 80 rfl 0 rfl ?_
  refine v_iload_n X dX0_perform_80 81 rfl 2 rfl ?_
  refine v_muV X hM (h_co.1) (c_X0_reopen0 l E b co a hO a0 a1 hg) kvX0_reopen kiX0_reopen kl_X0_120 (q0 := 0) rfl rfl (As := [.int (zI a)]) rfl rfl rfl dX0_perform_81 84 rfl (k' := 0) (n' := 0) rfl rfl (fsI (fun q q1 q2 => (Or.inl (fsH (by omega) (by omega))))) h_co (fun rv H1 lo1 hM hF hpo => ?_)
  obtain ⟨rfl, hw_0⟩ := hpo
  have h_co : PR E b (courtW E b (reopenC0 co a)) H1 := hw_0
  show V p l e (rmL 8 0 0) s m args below meth cd Q 6 H1 lo1 0 0 84 [(0, .ref b), (1, .int (zI 5)), (2, .int (zI a)), (3, .int (zI y)), (4, .int (zI 0)), (5, .int (zI z))] [.int (zI (co 5 a + 1))]
  have hb_2 := hO.b5 a
  subst hQ; exact m_iret X hr hlk hM dX0_perform_84 rfl ⟨rfl, h_co⟩
set_option maxHeartbeats 4000000 in
set_option maxRecDepth 20000 in
theorem c_X0_perform6_0 (l : Launch) (E : Nat → Nat → Nat) (b : Nat) (co : Nat → Int → Int) (a : Int) (y : Int) (z : Int) (hO : OkC co) (ha : Rg a) (hy : Rg y) (hz : Rg z) (a0 : 0 ≤ a) (a1 : a < 16) : Mu l yX0_perform cX0_perform 6 (some .int) 8 0 0 E [(b, 28)] [.ref b, .int (zI 6), .int (zI a), .int (zI y), .int (zI 0), .int (zI z)] (fun H => PR E b (courtW E b co) H) (fun rv H => rv = some (.int (zI (sumZ (fun j => bz (finishC co a 3 j = 2)) (co 0 0).toNat))) ∧ PR E b (courtW E b (finishC co a)) H) := by
  refine Mu.start (own := RX0) rfl (by decide +kernel) (Nat.le_of_ble_eq_true rfl) ?_
  intro p e s m below meth cd args Q hQ X hr hlk hnm hM hPr
  have h_co := hPr
  have hb0 := hO.b0
  have hbw := hO.bw
  refine v_iload_n X dX0_perform_0 1 rfl 1 rfl ?_
  refine v_tabOut X (by omega) dX0_perform_1 (by omega) 85 (by decide) ?_
  refine v_aload_n X dX0_perform_85 86 rfl 0 rfl ?_
  refine v_iload_n X dX0_perform_86 87 rfl 2 rfl ?_
  refine v_muV X hM (h_co.1) (c_X0_finish l E b co a hO a0 a1) kvX0_finish kiX0_finish kl_X0_123 (q0 := 0) rfl rfl (As := [.int (zI a)]) rfl rfl rfl dX0_perform_87 90 rfl (k' := 0) (n' := 0) rfl rfl (fsI (fun q q1 q2 => (Or.inl (fsH (by omega) (by omega))))) h_co (fun rv H1 lo1 hM hF hpo => ?_)
  obtain ⟨rfl, hw_0⟩ := hpo
  have h_co : PR E b (courtW E b (finishC co a)) H1 := hw_0
  show V p l e (rmL 8 0 0) s m args below meth cd Q 6 H1 lo1 0 0 90 [(0, .ref b), (1, .int (zI 6)), (2, .int (zI a)), (3, .int (zI y)), (4, .int (zI 0)), (5, .int (zI z))] [.int (zI (sumZ (fun j => bz (finishC co a 3 j = 2)) (co 0 0).toNat))]
  have hb_2 := hO.b0
  subst hQ; exact m_iret X hr hlk hM dX0_perform_90 rfl ⟨rfl, h_co⟩
set_option maxHeartbeats 4000000 in
set_option maxRecDepth 20000 in
theorem c_X0_perform0_1 (l : Launch) (E : Nat → Nat → Nat) (b : Nat) (co : Nat → Int → Int) (a : Int) (y : Int) (z : Int) (hO : OkC co) (ha : Rg a) (hy : Rg y) (hz : Rg z) (hc : co 0 0 < 16) : Mu l yX0_perform cX0_perform 6 (some .int) 8 0 0 E [(b, 28)] [.ref b, .int (zI 0), .int (zI a), .int (zI y), .int (zI 1), .int (zI z)] (fun H => PR E b (courtW E b co) H) (fun rv H => rv = some (.int (zI (co 0 0))) ∧ PR E b (courtW E b (openC co a y)) H) := by
  refine Mu.start (own := RX0) rfl (by decide +kernel) (Nat.le_of_ble_eq_true rfl) ?_
  intro p e s m below meth cd args Q hQ X hr hlk hnm hM hPr
  have h_co := hPr
  have hb0 := hO.b0
  have hbw := hO.bw
  refine v_iload_n X dX0_perform_0 1 rfl 1 rfl ?_
  refine v_tabIn X (by omega) dX0_perform_1 (by omega) (by omega) 0 (by omega) (off := 39) rfl 40 (by decide) ?_
  refine v_aload_n X dX0_perform_40 41 rfl 0 rfl ?_
  refine v_iload_n X dX0_perform_41 42 rfl 2 rfl ?_
  refine v_iload_n X dX0_perform_42 43 rfl 3 rfl ?_
  refine v_muV X hM (h_co.1) (c_X0_openCase l E b co a y hO hc) kvX0_openCase kiX0_openCase kl_X0_101 (q0 := 0) rfl rfl (As := [.int (zI a), .int (zI y)]) rfl rfl rfl dX0_perform_43 46 rfl (k' := 0) (n' := 0) rfl rfl (fsI (fun q q1 q2 => (Or.inl (fsH (by omega) (by omega))))) h_co (fun rv H1 lo1 hM hF hpo => ?_)
  obtain ⟨rfl, hw_0⟩ := hpo
  have h_co : PR E b (courtW E b (openC co a y)) H1 := hw_0
  show V p l e (rmL 8 0 0) s m args below meth cd Q 6 H1 lo1 0 0 46 [(0, .ref b), (1, .int (zI 0)), (2, .int (zI a)), (3, .int (zI y)), (4, .int (zI 1)), (5, .int (zI z))] [.int (zI (co 0 0))]
  have hb_2 := hO.b0
  subst hQ; exact m_iret X hr hlk hM dX0_perform_46 rfl ⟨rfl, h_co⟩
set_option maxHeartbeats 4000000 in
set_option maxRecDepth 20000 in
theorem c_X0_perform1_1 (l : Launch) (E : Nat → Nat → Nat) (b : Nat) (co : Nat → Int → Int) (a : Int) (y : Int) (z : Int) (hO : OkC co) (ha : Rg a) (hy : Rg y) (hz : Rg z) (hc : co 0 1 < 8) : Mu l yX0_perform cX0_perform 6 (some .int) 8 0 0 E [(b, 28)] [.ref b, .int (zI 1), .int (zI a), .int (zI y), .int (zI 1), .int (zI z)] (fun H => PR E b (courtW E b co) H) (fun rv H => rv = some (.int (zI (co 0 1))) ∧ PR E b (courtW E b (registerC co a)) H) := by
  refine Mu.start (own := RX0) rfl (by decide +kernel) (Nat.le_of_ble_eq_true rfl) ?_
  intro p e s m below meth cd args Q hQ X hr hlk hnm hM hPr
  have h_co := hPr
  have hb0 := hO.b0
  have hbw := hO.bw
  refine v_iload_n X dX0_perform_0 1 rfl 1 rfl ?_
  refine v_tabIn X (by omega) dX0_perform_1 (by omega) (by omega) 1 (by omega) (off := 46) rfl 47 (by decide) ?_
  refine v_aload_n X dX0_perform_47 48 rfl 0 rfl ?_
  refine v_iload_n X dX0_perform_48 49 rfl 2 rfl ?_
  refine v_muV X hM (h_co.1) (c_X0_register l E b co a hO hc) kvX0_register kiX0_register kl_X0_105 (q0 := 0) rfl rfl (As := [.int (zI a)]) rfl rfl rfl dX0_perform_49 52 rfl (k' := 0) (n' := 0) rfl rfl (fsI (fun q q1 q2 => (Or.inl (fsH (by omega) (by omega))))) h_co (fun rv H1 lo1 hM hF hpo => ?_)
  obtain ⟨rfl, hw_0⟩ := hpo
  have h_co : PR E b (courtW E b (registerC co a)) H1 := hw_0
  show V p l e (rmL 8 0 0) s m args below meth cd Q 6 H1 lo1 0 0 52 [(0, .ref b), (1, .int (zI 1)), (2, .int (zI a)), (3, .int (zI y)), (4, .int (zI 1)), (5, .int (zI z))] [.int (zI (co 0 1))]
  have hb_2 := hO.bw
  subst hQ; exact m_iret X hr hlk hM dX0_perform_52 rfl ⟨rfl, h_co⟩
set_option maxHeartbeats 4000000 in
set_option maxRecDepth 20000 in
theorem c_X0_perform2_1 (l : Launch) (E : Nat → Nat → Nat) (b : Nat) (co : Nat → Int → Int) (a : Int) (y : Int) (z : Int) (hO : OkC co) (ha : Rg a) (hy : Rg y) (hz : Rg z) (a0 : 0 ≤ a) (a1 : a < 16) (y0 : 0 ≤ y) (y1 : y < 8) (hs : co 6 a < 6) : Mu l yX0_perform cX0_perform 6 (some .int) 8 0 0 E [(b, 28)] [.ref b, .int (zI 2), .int (zI a), .int (zI y), .int (zI 1), .int (zI z)] (fun H => PR E b (courtW E b co) H) (fun rv H => rv = some (.int (zI (co 6 a + 1))) ∧ PR E b (courtW E b (hearC1 co a y z)) H) := by
  refine Mu.start (own := RX0) rfl (by decide +kernel) (Nat.le_of_ble_eq_true rfl) ?_
  intro p e s m below meth cd args Q hQ X hr hlk hnm hM hPr
  have h_co := hPr
  have hb0 := hO.b0
  have hbw := hO.bw
  refine v_iload_n X dX0_perform_0 1 rfl 1 rfl ?_
  refine v_tabIn X (by omega) dX0_perform_1 (by omega) (by omega) 2 (by omega) (off := 52) rfl 53 (by decide) ?_
  refine v_aload_n X dX0_perform_53 54 rfl 0 rfl ?_
  refine v_iload_n X dX0_perform_54 55 rfl 2 rfl ?_
  refine v_iload_n X dX0_perform_55 56 rfl 3 rfl ?_
  refine v_iload X dX0_perform_56 58 rfl 4 rfl ?_
  refine v_iload X dX0_perform_58 60 rfl 5 rfl ?_
  refine v_muV X hM (h_co.1) (c_X0_hear1 l E b co a y z hO a0 a1 y0 y1 hs) kvX0_hear kiX0_hear kl_X0_109 (q0 := 0) rfl rfl (As := [.int (zI a), .int (zI y), .int (zI 1), .int (zI z)]) rfl rfl rfl dX0_perform_60 63 rfl (k' := 0) (n' := 0) rfl rfl (fsI (fun q q1 q2 => (Or.inl (fsH (by omega) (by omega))))) h_co (fun rv H1 lo1 hM hF hpo => ?_)
  obtain ⟨rfl, hw_0⟩ := hpo
  have h_co : PR E b (courtW E b (hearC1 co a y z)) H1 := hw_0
  show V p l e (rmL 8 0 0) s m args below meth cd Q 6 H1 lo1 0 0 63 [(0, .ref b), (1, .int (zI 2)), (2, .int (zI a)), (3, .int (zI y)), (4, .int (zI 1)), (5, .int (zI z))] [.int (zI (co 6 a + 1))]
  have hb_2 := hO.b6 a
  subst hQ; exact m_iret X hr hlk hM dX0_perform_63 rfl ⟨rfl, h_co⟩
set_option maxHeartbeats 4000000 in
set_option maxRecDepth 20000 in
theorem c_X0_perform3_1 (l : Launch) (E : Nat → Nat → Nat) (b : Nat) (co : Nat → Int → Int) (a : Int) (y : Int) (z : Int) (hO : OkC co) (ha : Rg a) (hy : Rg y) (hz : Rg z) (a0 : 0 ≤ a) (a1 : a < 16) (y0 : 0 ≤ y) (y1 : y < 8) : Mu l yX0_perform cX0_perform 6 (some .int) 8 0 0 E [(b, 28)] [.ref b, .int (zI 3), .int (zI a), .int (zI y), .int (zI 1), .int (zI z)] (fun H => PR E b (courtW E b co) H) (fun rv H => rv = some (.int (zI (min (co 11 y + 1) 9))) ∧ PR E b (courtW E b (askC1 co a y)) H) := by
  refine Mu.start (own := RX0) rfl (by decide +kernel) (Nat.le_of_ble_eq_true rfl) ?_
  intro p e s m below meth cd args Q hQ X hr hlk hnm hM hPr
  have h_co := hPr
  have hb0 := hO.b0
  have hbw := hO.bw
  refine v_iload_n X dX0_perform_0 1 rfl 1 rfl ?_
  refine v_tabIn X (by omega) dX0_perform_1 (by omega) (by omega) 3 (by omega) (off := 63) rfl 64 (by decide) ?_
  refine v_aload_n X dX0_perform_64 65 rfl 0 rfl ?_
  refine v_iload_n X dX0_perform_65 66 rfl 2 rfl ?_
  refine v_iload_n X dX0_perform_66 67 rfl 3 rfl ?_
  refine v_iload X dX0_perform_67 69 rfl 4 rfl ?_
  refine v_muV X hM (h_co.1) (c_X0_ask1 l E b co a y hO a0 a1 y0 y1) kvX0_ask kiX0_ask kl_X0_113 (q0 := 0) rfl rfl (As := [.int (zI a), .int (zI y), .int (zI 1)]) rfl rfl rfl dX0_perform_69 72 rfl (k' := 0) (n' := 0) rfl rfl (fsI (fun q q1 q2 => (Or.inl (fsH (by omega) (by omega))))) h_co (fun rv H1 lo1 hM hF hpo => ?_)
  obtain ⟨rfl, hw_0⟩ := hpo
  have h_co : PR E b (courtW E b (askC1 co a y)) H1 := hw_0
  show V p l e (rmL 8 0 0) s m args below meth cd Q 6 H1 lo1 0 0 72 [(0, .ref b), (1, .int (zI 3)), (2, .int (zI a)), (3, .int (zI y)), (4, .int (zI 1)), (5, .int (zI z))] [.int (zI (min (co 11 y + 1) 9))]
  have hb_2 := hO.b11 y
  subst hQ; exact m_iret X hr hlk hM dX0_perform_72 rfl ⟨rfl, h_co⟩
set_option maxHeartbeats 4000000 in
set_option maxRecDepth 20000 in
theorem c_X0_perform4_11_1 (l : Launch) (E : Nat → Nat → Nat) (b : Nat) (co : Nat → Int → Int) (a : Int) (y : Int) (z : Int) (hO : OkC co) (ha : Rg a) (hy : Rg y) (hz : Rg z) (a0 : 0 ≤ a) (a1 : a < 16) (hg : 0 < mgC co a) (hla : 2 ≤ co 5 a) : Mu l yX0_perform cX0_perform 6 (some .int) 8 0 0 E [(b, 28)] [.ref b, .int (zI 4), .int (zI a), .int (zI y), .int (zI 1), .int (zI z)] (fun H => PR E b (courtW E b co) H) (fun rv H => rv = some (.int (zI 1)) ∧ PR E b (courtW E b (judgeC11 co a)) H) := by
  refine Mu.start (own := RX0) rfl (by decide +kernel) (Nat.le_of_ble_eq_true rfl) ?_
  intro p e s m below meth cd args Q hQ X hr hlk hnm hM hPr
  have h_co := hPr
  have hb0 := hO.b0
  have hbw := hO.bw
  refine v_iload_n X dX0_perform_0 1 rfl 1 rfl ?_
  refine v_tabIn X (by omega) dX0_perform_1 (by omega) (by omega) 4 (by omega) (off := 72) rfl 73 (by decide) ?_
  refine v_aload_n X dX0_perform_73 74 rfl 0 rfl ?_
  refine v_iload_n X dX0_perform_74 75 rfl 2 rfl ?_
  refine v_muV X hM (h_co.1) (c_X0_judge11 l E b co a hO a0 a1 hg hla) kvX0_judge kiX0_judge kl_X0_117 (q0 := 0) rfl rfl (As := [.int (zI a)]) rfl rfl rfl dX0_perform_75 78 rfl (k' := 0) (n' := 0) rfl rfl (fsI (fun q q1 q2 => (Or.inl (fsH (by omega) (by omega))))) h_co (fun rv H1 lo1 hM hF hpo => ?_)
  obtain ⟨rfl, hw_0⟩ := hpo
  have h_co : PR E b (courtW E b (judgeC11 co a)) H1 := hw_0
  show V p l e (rmL 8 0 0) s m args below meth cd Q 6 H1 lo1 0 0 78 [(0, .ref b), (1, .int (zI 4)), (2, .int (zI a)), (3, .int (zI y)), (4, .int (zI 1)), (5, .int (zI z))] [.int (zI 1)]
  subst hQ; exact m_iret X hr hlk hM dX0_perform_78 rfl ⟨rfl, h_co⟩
set_option maxHeartbeats 4000000 in
set_option maxRecDepth 20000 in
theorem c_X0_perform4_10_1 (l : Launch) (E : Nat → Nat → Nat) (b : Nat) (co : Nat → Int → Int) (a : Int) (y : Int) (z : Int) (hO : OkC co) (ha : Rg a) (hy : Rg y) (hz : Rg z) (a0 : 0 ≤ a) (a1 : a < 16) (hg : 0 < mgC co a) (hla : co 5 a < 2) : Mu l yX0_perform cX0_perform 6 (some .int) 8 0 0 E [(b, 28)] [.ref b, .int (zI 4), .int (zI a), .int (zI y), .int (zI 1), .int (zI z)] (fun H => PR E b (courtW E b co) H) (fun rv H => rv = some (.int (zI 1)) ∧ PR E b (courtW E b (judgeC10 co a)) H) := by
  refine Mu.start (own := RX0) rfl (by decide +kernel) (Nat.le_of_ble_eq_true rfl) ?_
  intro p e s m below meth cd args Q hQ X hr hlk hnm hM hPr
  have h_co := hPr
  have hb0 := hO.b0
  have hbw := hO.bw
  refine v_iload_n X dX0_perform_0 1 rfl 1 rfl ?_
  refine v_tabIn X (by omega) dX0_perform_1 (by omega) (by omega) 4 (by omega) (off := 72) rfl 73 (by decide) ?_
  refine v_aload_n X dX0_perform_73 74 rfl 0 rfl ?_
  refine v_iload_n X dX0_perform_74 75 rfl 2 rfl ?_
  refine v_muV X hM (h_co.1) (c_X0_judge10 l E b co a hO a0 a1 hg hla) kvX0_judge kiX0_judge kl_X0_117 (q0 := 0) rfl rfl (As := [.int (zI a)]) rfl rfl rfl dX0_perform_75 78 rfl (k' := 0) (n' := 0) rfl rfl (fsI (fun q q1 q2 => (Or.inl (fsH (by omega) (by omega))))) h_co (fun rv H1 lo1 hM hF hpo => ?_)
  obtain ⟨rfl, hw_0⟩ := hpo
  have h_co : PR E b (courtW E b (judgeC10 co a)) H1 := hw_0
  show V p l e (rmL 8 0 0) s m args below meth cd Q 6 H1 lo1 0 0 78 [(0, .ref b), (1, .int (zI 4)), (2, .int (zI a)), (3, .int (zI y)), (4, .int (zI 1)), (5, .int (zI z))] [.int (zI 1)]
  subst hQ; exact m_iret X hr hlk hM dX0_perform_78 rfl ⟨rfl, h_co⟩
set_option maxHeartbeats 4000000 in
set_option maxRecDepth 20000 in
theorem c_X0_perform5_1_1 (l : Launch) (E : Nat → Nat → Nat) (b : Nat) (co : Nat → Int → Int) (a : Int) (y : Int) (z : Int) (hO : OkC co) (ha : Rg a) (hy : Rg y) (hz : Rg z) (a0 : 0 ≤ a) (a1 : a < 16) (hg : ¬ co 4 a = 0) : Mu l yX0_perform cX0_perform 6 (some .int) 8 0 0 E [(b, 28)] [.ref b, .int (zI 5), .int (zI a), .int (zI y), .int (zI 1), .int (zI z)] (fun H => PR E b (courtW E b co) H) (fun rv H => rv = some (.int (zI (co 5 a + 1))) ∧ PR E b (courtW E b (reopenC1 co a)) H) := by
  refine Mu.start (own := RX0) rfl (by decide +kernel) (Nat.le_of_ble_eq_true rfl) ?_
  intro p e s m below meth cd args Q hQ X hr hlk hnm hM hPr
  have h_co := hPr
  have hb0 := hO.b0
  have hbw := hO.bw
  refine v_iload_n X dX0_perform_0 1 rfl 1 rfl ?_
  refine v_tabIn X (by omega) dX0_perform_1 (by omega) (by omega) 5 (by omega) (off := 78) rfl 79 (by decide) ?_
  refine v_aload_n X dX0_perform_79 80 rfl 0 rfl ?_
  refine v_iload_n X dX0_perform_80 81 rfl 2 rfl ?_
  refine v_muV X hM (h_co.1) (c_X0_reopen1 l E b co a hO a0 a1 hg) kvX0_reopen kiX0_reopen kl_X0_120 (q0 := 0) rfl rfl (As := [.int (zI a)]) rfl rfl rfl dX0_perform_81 84 rfl (k' := 0) (n' := 0) rfl rfl (fsI (fun q q1 q2 => (Or.inl (fsH (by omega) (by omega))))) h_co (fun rv H1 lo1 hM hF hpo => ?_)
  obtain ⟨rfl, hw_0⟩ := hpo
  have h_co : PR E b (courtW E b (reopenC1 co a)) H1 := hw_0
  show V p l e (rmL 8 0 0) s m args below meth cd Q 6 H1 lo1 0 0 84 [(0, .ref b), (1, .int (zI 5)), (2, .int (zI a)), (3, .int (zI y)), (4, .int (zI 1)), (5, .int (zI z))] [.int (zI (co 5 a + 1))]
  have hb_2 := hO.b5 a
  subst hQ; exact m_iret X hr hlk hM dX0_perform_84 rfl ⟨rfl, h_co⟩
set_option maxHeartbeats 4000000 in
set_option maxRecDepth 20000 in
theorem c_X0_perform4_01_1 (l : Launch) (E : Nat → Nat → Nat) (b : Nat) (co : Nat → Int → Int) (a : Int) (y : Int) (z : Int) (hO : OkC co) (ha : Rg a) (hy : Rg y) (hz : Rg z) (a0 : 0 ≤ a) (a1 : a < 16) (hg : mgC co a ≤ 0) (hla : 2 ≤ co 5 a) : Mu l yX0_perform cX0_perform 6 (some .int) 8 0 0 E [(b, 28)] [.ref b, .int (zI 4), .int (zI a), .int (zI y), .int (zI 1), .int (zI z)] (fun H => PR E b (courtW E b co) H) (fun rv H => rv = some (.int (zI 0)) ∧ PR E b (courtW E b (judgeC01 co a)) H) := by
  refine Mu.start (own := RX0) rfl (by decide +kernel) (Nat.le_of_ble_eq_true rfl) ?_
  intro p e s m below meth cd args Q hQ X hr hlk hnm hM hPr
  have h_co := hPr
  have hb0 := hO.b0
  have hbw := hO.bw
  refine v_iload_n X dX0_perform_0 1 rfl 1 rfl ?_
  refine v_tabIn X (by omega) dX0_perform_1 (by omega) (by omega) 4 (by omega) (off := 72) rfl 73 (by decide) ?_
  refine v_aload_n X dX0_perform_73 74 rfl 0 rfl ?_
  refine v_iload_n X dX0_perform_74 75 rfl 2 rfl ?_
  refine v_muV X hM (h_co.1) (c_X0_judge01 l E b co a hO a0 a1 hg hla) kvX0_judge kiX0_judge kl_X0_117 (q0 := 0) rfl rfl (As := [.int (zI a)]) rfl rfl rfl dX0_perform_75 78 rfl (k' := 0) (n' := 0) rfl rfl (fsI (fun q q1 q2 => (Or.inl (fsH (by omega) (by omega))))) h_co (fun rv H1 lo1 hM hF hpo => ?_)
  obtain ⟨rfl, hw_0⟩ := hpo
  have h_co : PR E b (courtW E b (judgeC01 co a)) H1 := hw_0
  show V p l e (rmL 8 0 0) s m args below meth cd Q 6 H1 lo1 0 0 78 [(0, .ref b), (1, .int (zI 4)), (2, .int (zI a)), (3, .int (zI y)), (4, .int (zI 1)), (5, .int (zI z))] [.int (zI 0)]
  subst hQ; exact m_iret X hr hlk hM dX0_perform_78 rfl ⟨rfl, h_co⟩
set_option maxHeartbeats 4000000 in
set_option maxRecDepth 20000 in
theorem c_X0_perform4_00_1 (l : Launch) (E : Nat → Nat → Nat) (b : Nat) (co : Nat → Int → Int) (a : Int) (y : Int) (z : Int) (hO : OkC co) (ha : Rg a) (hy : Rg y) (hz : Rg z) (a0 : 0 ≤ a) (a1 : a < 16) (hg : mgC co a ≤ 0) (hla : co 5 a < 2) : Mu l yX0_perform cX0_perform 6 (some .int) 8 0 0 E [(b, 28)] [.ref b, .int (zI 4), .int (zI a), .int (zI y), .int (zI 1), .int (zI z)] (fun H => PR E b (courtW E b co) H) (fun rv H => rv = some (.int (zI 0)) ∧ PR E b (courtW E b (judgeC00 co a)) H) := by
  refine Mu.start (own := RX0) rfl (by decide +kernel) (Nat.le_of_ble_eq_true rfl) ?_
  intro p e s m below meth cd args Q hQ X hr hlk hnm hM hPr
  have h_co := hPr
  have hb0 := hO.b0
  have hbw := hO.bw
  refine v_iload_n X dX0_perform_0 1 rfl 1 rfl ?_
  refine v_tabIn X (by omega) dX0_perform_1 (by omega) (by omega) 4 (by omega) (off := 72) rfl 73 (by decide) ?_
  refine v_aload_n X dX0_perform_73 74 rfl 0 rfl ?_
  refine v_iload_n X dX0_perform_74 75 rfl 2 rfl ?_
  refine v_muV X hM (h_co.1) (c_X0_judge00 l E b co a hO a0 a1 hg hla) kvX0_judge kiX0_judge kl_X0_117 (q0 := 0) rfl rfl (As := [.int (zI a)]) rfl rfl rfl dX0_perform_75 78 rfl (k' := 0) (n' := 0) rfl rfl (fsI (fun q q1 q2 => (Or.inl (fsH (by omega) (by omega))))) h_co (fun rv H1 lo1 hM hF hpo => ?_)
  obtain ⟨rfl, hw_0⟩ := hpo
  have h_co : PR E b (courtW E b (judgeC00 co a)) H1 := hw_0
  show V p l e (rmL 8 0 0) s m args below meth cd Q 6 H1 lo1 0 0 78 [(0, .ref b), (1, .int (zI 4)), (2, .int (zI a)), (3, .int (zI y)), (4, .int (zI 1)), (5, .int (zI z))] [.int (zI 0)]
  subst hQ; exact m_iret X hr hlk hM dX0_perform_78 rfl ⟨rfl, h_co⟩
set_option maxHeartbeats 4000000 in
set_option maxRecDepth 20000 in
theorem c_X0_perform5_0_1 (l : Launch) (E : Nat → Nat → Nat) (b : Nat) (co : Nat → Int → Int) (a : Int) (y : Int) (z : Int) (hO : OkC co) (ha : Rg a) (hy : Rg y) (hz : Rg z) (a0 : 0 ≤ a) (a1 : a < 16) (hg : co 4 a = 0) : Mu l yX0_perform cX0_perform 6 (some .int) 8 0 0 E [(b, 28)] [.ref b, .int (zI 5), .int (zI a), .int (zI y), .int (zI 1), .int (zI z)] (fun H => PR E b (courtW E b co) H) (fun rv H => rv = some (.int (zI (co 5 a + 1))) ∧ PR E b (courtW E b (reopenC0 co a)) H) := by
  refine Mu.start (own := RX0) rfl (by decide +kernel) (Nat.le_of_ble_eq_true rfl) ?_
  intro p e s m below meth cd args Q hQ X hr hlk hnm hM hPr
  have h_co := hPr
  have hb0 := hO.b0
  have hbw := hO.bw
  refine v_iload_n X dX0_perform_0 1 rfl 1 rfl ?_
  refine v_tabIn X (by omega) dX0_perform_1 (by omega) (by omega) 5 (by omega) (off := 78) rfl 79 (by decide) ?_
  refine v_aload_n X dX0_perform_79 80 rfl 0 rfl ?_
  refine v_iload_n X dX0_perform_80 81 rfl 2 rfl ?_
  refine v_muV X hM (h_co.1) (c_X0_reopen0 l E b co a hO a0 a1 hg) kvX0_reopen kiX0_reopen kl_X0_120 (q0 := 0) rfl rfl (As := [.int (zI a)]) rfl rfl rfl dX0_perform_81 84 rfl (k' := 0) (n' := 0) rfl rfl (fsI (fun q q1 q2 => (Or.inl (fsH (by omega) (by omega))))) h_co (fun rv H1 lo1 hM hF hpo => ?_)
  obtain ⟨rfl, hw_0⟩ := hpo
  have h_co : PR E b (courtW E b (reopenC0 co a)) H1 := hw_0
  show V p l e (rmL 8 0 0) s m args below meth cd Q 6 H1 lo1 0 0 84 [(0, .ref b), (1, .int (zI 5)), (2, .int (zI a)), (3, .int (zI y)), (4, .int (zI 1)), (5, .int (zI z))] [.int (zI (co 5 a + 1))]
  have hb_2 := hO.b5 a
  subst hQ; exact m_iret X hr hlk hM dX0_perform_84 rfl ⟨rfl, h_co⟩
set_option maxHeartbeats 4000000 in
set_option maxRecDepth 20000 in
theorem c_X0_perform6_1 (l : Launch) (E : Nat → Nat → Nat) (b : Nat) (co : Nat → Int → Int) (a : Int) (y : Int) (z : Int) (hO : OkC co) (ha : Rg a) (hy : Rg y) (hz : Rg z) (a0 : 0 ≤ a) (a1 : a < 16) : Mu l yX0_perform cX0_perform 6 (some .int) 8 0 0 E [(b, 28)] [.ref b, .int (zI 6), .int (zI a), .int (zI y), .int (zI 1), .int (zI z)] (fun H => PR E b (courtW E b co) H) (fun rv H => rv = some (.int (zI (sumZ (fun j => bz (finishC co a 3 j = 2)) (co 0 0).toNat))) ∧ PR E b (courtW E b (finishC co a)) H) := by
  refine Mu.start (own := RX0) rfl (by decide +kernel) (Nat.le_of_ble_eq_true rfl) ?_
  intro p e s m below meth cd args Q hQ X hr hlk hnm hM hPr
  have h_co := hPr
  have hb0 := hO.b0
  have hbw := hO.bw
  refine v_iload_n X dX0_perform_0 1 rfl 1 rfl ?_
  refine v_tabOut X (by omega) dX0_perform_1 (by omega) 85 (by decide) ?_
  refine v_aload_n X dX0_perform_85 86 rfl 0 rfl ?_
  refine v_iload_n X dX0_perform_86 87 rfl 2 rfl ?_
  refine v_muV X hM (h_co.1) (c_X0_finish l E b co a hO a0 a1) kvX0_finish kiX0_finish kl_X0_123 (q0 := 0) rfl rfl (As := [.int (zI a)]) rfl rfl rfl dX0_perform_87 90 rfl (k' := 0) (n' := 0) rfl rfl (fsI (fun q q1 q2 => (Or.inl (fsH (by omega) (by omega))))) h_co (fun rv H1 lo1 hM hF hpo => ?_)
  obtain ⟨rfl, hw_0⟩ := hpo
  have h_co : PR E b (courtW E b (finishC co a)) H1 := hw_0
  show V p l e (rmL 8 0 0) s m args below meth cd Q 6 H1 lo1 0 0 90 [(0, .ref b), (1, .int (zI 6)), (2, .int (zI a)), (3, .int (zI y)), (4, .int (zI 1)), (5, .int (zI z))] [.int (zI (sumZ (fun j => bz (finishC co a 3 j = 2)) (co 0 0).toNat))]
  have hb_2 := hO.b0
  subst hQ; exact m_iret X hr hlk hM dX0_perform_90 rfl ⟨rfl, h_co⟩
set_option maxHeartbeats 4000000 in
theorem c_X0_faultOf (l : Launch) (E : Nat → Nat → Nat) (b : Nat) (co : Nat → Int → Int) (kd a y z : Int) (hO : OkC co) (hkd : 0 ≤ kd ∧ kd ≤ 6) (ha : Rg a) (hy : Rg y) (hz : Rg z) : Rd l yX0_faultOf cX0_faultOf 5 (some (.object "CaseManager$Fault")) 8 E [.ref b, .int (zI kd), .int (zI a), .int (zI y), .int (zI z)] (courtW E b co) (some (.ref (E 103 (flC co kd a y z)))) := by
  rcases (show kd = 0 ∨ kd = 1 ∨ kd = 2 ∨ kd = 3 ∨ kd = 4 ∨ kd = 5 ∨ kd = 6 by omega) with rfl | rfl | rfl | rfl | rfl | rfl | rfl
  · exact c_X0_faultOf0 l E b co a y z hO ha hy hz
  · exact c_X0_faultOf1 l E b co a y z hO ha hy hz
  · exact c_X0_faultOf2 l E b co a y z hO ha hy hz
  · exact c_X0_faultOf3 l E b co a y z hO ha hy hz
  · exact c_X0_faultOf4 l E b co a y z hO ha hy hz
  · exact c_X0_faultOf5 l E b co a y z hO ha hy hz
  · exact c_X0_faultOf6 l E b co a y z hO ha hy hz
theorem flC_0 {co : Nat → Int → Int} {a y z : Int} (h : flC co 0 a y z = 0) : ((0 ≤ a ∧ a < 6) ∧ (0 ≤ y ∧ y < 5)) ∧ firstZ (fun j => co 1 j = a ∧ co 2 j = y) (co 0 0).toNat < 0 ∧ co 0 0 < 16 := by
  have h : fCh co a y = 0 := h
  unfold fCh at h
  split at h
  · split at h <;> omega
  · omega
theorem flC_1 {co : Nat → Int → Int} {a y z : Int} (h : flC co 1 a y z = 0) : (0 ≤ a ∧ a ≤ 9) ∧ co 0 1 < 8 := by
  have h : fWi co a = 0 := h
  unfold fWi at h
  split at h
  · split at h <;> omega
  · omega
theorem flC_2 {co : Nat → Int → Int} {a y z : Int} (h : flC co 2 a y z = 0) : ((0 ≤ a ∧ a < co 0 0) ∧ (0 ≤ y ∧ y < co 0 1)) ∧ (1 ≤ z ∧ z ≤ 5) ∧ (co 3 a = 0 ∧ ¬ 0 < co 9 (a * 8 + y) ∧ co 6 a < 6) := by
  have h : fTe co a y z = 0 := h
  unfold fTe at h
  split at h
  · split at h
    · split at h <;> omega
    · omega
  · omega
theorem flC_3 {co : Nat → Int → Int} {a y z : Int} (h : flC co 3 a y z = 0) : ((0 ≤ a ∧ a < co 0 0) ∧ (0 ≤ y ∧ y < co 0 1)) ∧ 0 < co 9 (a * 8 + y) ∧ (co 3 a = 0 ∧ co 10 (a * 8 + y) < 2) := by
  have h : fQu co a y = 0 := h
  unfold fQu at h
  split at h
  · split at h
    · split at h <;> omega
    · omega
  · omega
theorem flC_4 {co : Nat → Int → Int} {a y z : Int} (h : flC co 4 a y z = 0) : (0 ≤ a ∧ a < co 0 0) ∧ (co 3 a = 0 ∧ 0 < co 6 a) := by
  have h : fDe co a = 0 := h
  unfold fDe at h
  split at h
  · split at h <;> omega
  · omega
theorem flC_5 {co : Nat → Int → Int} {kd a y z : Int} (hk : kd = 5 ∨ kd = 6) (h : flC co kd a y z = 0) : (0 ≤ a ∧ a < co 0 0) ∧ co 3 a = 1 := by
  have h : fAf co a = 0 := by rcases hk with rfl | rfl <;> exact h
  unfold fAf at h
  split at h
  · split at h <;> omega
  · omega
set_option maxHeartbeats 4000000 in
theorem c_X0_perform (l : Launch) (E : Nat → Nat → Nat) (b : Nat) (co : Nat → Int → Int) (kd a y f z : Int) (hO : OkC co) (hkd : 0 ≤ kd ∧ kd ≤ 6) (ha : Rg a) (hy : Rg y) (hz : Rg z) (hb : 0 ≤ f ∧ f ≤ 1) (hf : flC co kd a y z = 0) : Mu l yX0_perform cX0_perform 6 (some .int) 8 0 0 E [(b, 28)] [.ref b, .int (zI kd), .int (zI a), .int (zI y), .int (zI f), .int (zI z)] (fun H => PR E b (courtW E b co) H) (fun rv H => rv = some (.int (zI (opV co kd a y f z))) ∧ PR E b (courtW E b (opC co kd a y f z)) H) := by
  have hb0 := hO.b0
  have hbw := hO.bw
  rcases (show kd = 0 ∨ kd = 1 ∨ kd = 2 ∨ kd = 3 ∨ kd = 4 ∨ kd = 5 ∨ kd = 6 by omega) with rfl | rfl | rfl | rfl | rfl | rfl | rfl
  · have h := flC_0 hf
    rcases (show f = 0 ∨ f = 1 by omega) with rfl | rfl
    · exact c_X0_perform0_0 l E b co a y z hO ha hy hz (by omega)
    · exact c_X0_perform0_1 l E b co a y z hO ha hy hz (by omega)
  · have h := flC_1 hf
    rcases (show f = 0 ∨ f = 1 by omega) with rfl | rfl
    · exact c_X0_perform1_0 l E b co a y z hO ha hy hz (by omega)
    · exact c_X0_perform1_1 l E b co a y z hO ha hy hz (by omega)
  · have h := flC_2 hf
    rcases (show f = 0 ∨ f = 1 by omega) with rfl | rfl
    · exact c_X0_perform2_0 l E b co a y z hO ha hy hz (by omega) (by omega) (by omega) (by omega) (by omega)
    · exact c_X0_perform2_1 l E b co a y z hO ha hy hz (by omega) (by omega) (by omega) (by omega) (by omega)
  · have h := flC_3 hf
    rcases (show f = 0 ∨ f = 1 by omega) with rfl | rfl
    · exact c_X0_perform3_0 l E b co a y z hO ha hy hz (by omega) (by omega) (by omega) (by omega)
    · exact c_X0_perform3_1 l E b co a y z hO ha hy hz (by omega) (by omega) (by omega) (by omega)
  · have h := flC_4 hf
    have e1 : opC co 4 a y f z = if 0 < mgC co a then (if 2 ≤ co 5 a then judgeC11 co a else judgeC10 co a) else (if 2 ≤ co 5 a then judgeC01 co a else judgeC00 co a) := rfl
    have e2 : opV co 4 a y f z = if 0 < mgC co a then 1 else 0 := rfl
    rw [e1, e2]
    by_cases hg : 0 < mgC co a
    · by_cases hla : 2 ≤ co 5 a
      · rw [if_pos hg, if_pos hg, if_pos hla]
        rcases (show f = 0 ∨ f = 1 by omega) with rfl | rfl
        · exact c_X0_perform4_11_0 l E b co a y z hO ha hy hz (by omega) (by omega) hg hla
        · exact c_X0_perform4_11_1 l E b co a y z hO ha hy hz (by omega) (by omega) hg hla
      · rw [if_pos hg, if_pos hg, if_neg hla]
        rcases (show f = 0 ∨ f = 1 by omega) with rfl | rfl
        · exact c_X0_perform4_10_0 l E b co a y z hO ha hy hz (by omega) (by omega) hg (by omega)
        · exact c_X0_perform4_10_1 l E b co a y z hO ha hy hz (by omega) (by omega) hg (by omega)
    · by_cases hla : 2 ≤ co 5 a
      · rw [if_neg hg, if_neg hg, if_pos hla]
        rcases (show f = 0 ∨ f = 1 by omega) with rfl | rfl
        · exact c_X0_perform4_01_0 l E b co a y z hO ha hy hz (by omega) (by omega) (by omega) hla
        · exact c_X0_perform4_01_1 l E b co a y z hO ha hy hz (by omega) (by omega) (by omega) hla
      · rw [if_neg hg, if_neg hg, if_neg hla]
        rcases (show f = 0 ∨ f = 1 by omega) with rfl | rfl
        · exact c_X0_perform4_00_0 l E b co a y z hO ha hy hz (by omega) (by omega) (by omega) (by omega)
        · exact c_X0_perform4_00_1 l E b co a y z hO ha hy hz (by omega) (by omega) (by omega) (by omega)
  · have h := flC_5 (Or.inl rfl) hf
    have e1 : opC co 5 a y f z = if ¬ co 4 a = 0 then reopenC1 co a else reopenC0 co a := rfl
    rw [e1]
    by_cases hg : co 4 a = 0
    · rw [if_neg (fun q => q hg)]
      rcases (show f = 0 ∨ f = 1 by omega) with rfl | rfl
      · exact c_X0_perform5_0_0 l E b co a y z hO ha hy hz (by omega) (by omega) hg
      · exact c_X0_perform5_0_1 l E b co a y z hO ha hy hz (by omega) (by omega) hg
    · rw [if_pos hg]
      rcases (show f = 0 ∨ f = 1 by omega) with rfl | rfl
      · exact c_X0_perform5_1_0 l E b co a y z hO ha hy hz (by omega) (by omega) hg
      · exact c_X0_perform5_1_1 l E b co a y z hO ha hy hz (by omega) (by omega) hg
  · have h := flC_5 (Or.inr rfl) hf
    rcases (show f = 0 ∨ f = 1 by omega) with rfl | rfl
    · exact c_X0_perform6_0 l E b co a y z hO ha hy hz (by omega) (by omega)
    · exact c_X0_perform6_1 l E b co a y z hO ha hy hz (by omega) (by omega)

