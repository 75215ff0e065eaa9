theorem mul_b {a b A B : Int} (h0 : 0 ≤ a) (h1 : a ≤ A) (h2 : -B ≤ b) (h3 : b ≤ B) (hA : 0 ≤ A) (hB : 0 ≤ B) : -(A * B) ≤ a * b ∧ a * b ≤ A * B := by
  have e1 : a * b ≤ a * B := Int.mul_le_mul_of_nonneg_left h3 h0
  have e2 : a * B ≤ A * B := Int.mul_le_mul_of_nonneg_right h1 hB
  have e3 : a * (-B) ≤ a * b := Int.mul_le_mul_of_nonneg_left h2 h0
  have e4 : a * (-B) = -(a * B) := Int.mul_neg a B
  omega
theorem w2_b {co : Nat → Int → Int} (hO : OkC co) (x y : Int) : 0 ≤ co 9 x * co 11 y ∧ co 9 x * co 11 y ≤ 45 := by
  have h1 := hO.b9 x
  have h2 := hO.b11 y
  have h3 := Int.mul_nonneg h1.1 h2.1
  have h4 := mul_b h1.1 h1.2 (show -9 ≤ co 11 y by omega) h2.2 (by decide) (by decide)
  omega
set_option maxHeartbeats 4000000 in
set_option maxRecDepth 20000 in
theorem c_X6_get (l : Launch) (E : Nat → Nat → Nat) (b : Nat) (N : Nat) (g : Int → Int) (i : Int) (h0 : 0 ≤ i) (h1 : i < N) (h2 : N < 2147483648) : Rd l yX6_get cX6_get 2 (some .int) 0 E [.ref b, .int (zI i)] (rowW E b N g) (some (.int (zI (g i)))) := by
  refine Rd.start (own := RX6) rfl (by decide +kernel) (Nat.le_of_ble_eq_true rfl) ?_
  intro p e s m below meth cd args Q hQ X hr hlk hC hP
  have h_r := hP
  refine v_iload_n X dX6_get_0 1 rfl 1 rfl ?_
  refine v_if_lt X (by omega) dX6_get_1 4 22 rfl (by decide) (fun c_1 => ?_) (fun c_1 => ?_)
  · skip
    refine v_iconst X dX6_get_22 23 rfl ?_
    subst hQ; exact v_iret0 X hr hlk dX6_get_23 (by omega)
  · skip
    refine v_iload_n X dX6_get_4 5 rfl 1 rfl ?_
    refine v_aload_n X dX6_get_5 6 rfl 0 rfl ?_
    refine v_getf X hC h_r inX6 0 rfl rfl 0 (by decide) kf_X6_7 (fun _ h => h) rfl dX6_get_6 9 rfl ?_
    refine v_alen X hC h_r 1 0 rfl rfl dX6_get_9 10 rfl ?_
    refine v_icmp_ge X (by omega) (by omega) dX6_get_10 13 22 rfl (by decide) (fun c_2 => ?_) (fun c_2 => ?_)
    · skip
      refine v_iconst X dX6_get_22 23 rfl ?_
      subst hQ; exact v_iret0 X hr hlk dX6_get_23 (by omega)
    · skip
      refine v_aload_n X dX6_get_13 14 rfl 0 rfl ?_
      refine v_getf X hC h_r inX6 0 rfl rfl 0 (by decide) kf_X6_7 (fun _ h => h) rfl dX6_get_14 17 rfl ?_
      refine v_iload_n X dX6_get_17 18 rfl 1 rfl ?_
      refine v_iald X hC h_r 1 rfl (by omega) (by omega) (by omega) dX6_get_18 19 rfl ?_
      refine v_goto X dX6_get_19 23 (by decide) ?_
      subst hQ; exact v_iret0 X hr hlk dX6_get_23 rfl
set_option maxHeartbeats 4000000 in
set_option maxRecDepth 20000 in
theorem c_X6_put (l : Launch) (E : Nat → Nat → Nat) (b : Nat) (N : Nat) (g : Int → Int) (i : Int) (v : Int) (h0 : 0 ≤ i) (h1 : i < N) (h2 : N < 2147483648) : Mu l yX6_put cX6_put 3 none 0 0 0 E [(b, 2)] [.ref b, .int (zI i), .int (zI v)] (fun H => PR E b (rowW E b N g) H) (fun rv H => rv = none ∧ PR E b (rowW E b N (updZ g i v)) H) := by
  refine Mu.start (own := RX6) rfl (by decide +kernel) (Nat.le_of_ble_eq_true rfl) ?_
  intro p e s m below meth cd args Q hQ X hr hlk hnm hM hPr
  have h_r := hPr
  refine v_iload_n X dX6_put_0 1 rfl 1 rfl ?_
  refine v_if_lt X (by omega) dX6_put_1 4 20 rfl (by decide) (fun c_1 => ?_) (fun c_1 => ?_)
  · skip
    exfalso; omega
  · skip
    refine v_iload_n X dX6_put_4 5 rfl 1 rfl ?_
    refine v_aload_n X dX6_put_5 6 rfl 0 rfl ?_
    refine v_getf X hM.C h_r.1 inX6 0 rfl rfl 0 (by decide) kf_X6_7 (fun _ h => h) rfl dX6_put_6 9 rfl ?_
    refine v_alen X hM.C h_r.1 1 0 rfl rfl dX6_put_9 10 rfl ?_
    refine v_icmp_ge X (by omega) (by omega) dX6_put_10 13 20 rfl (by decide) (fun c_2 => ?_) (fun c_2 => ?_)
    · skip
      exfalso; omega
    · skip
      refine v_aload_n X dX6_put_13 14 rfl 0 rfl ?_
      refine v_getf X hM.C h_r.1 inX6 0 rfl rfl 0 (by decide) kf_X6_7 (fun _ h => h) rfl dX6_put_14 17 rfl ?_
      refine v_iload_n X dX6_put_17 18 rfl 1 rfl ?_
      refine v_iload_n X dX6_put_18 19 rfl 2 rfl ?_
      refine v_iast X hM h_r 1 rfl (by omega) (by omega) (by omega) (Or.inl (fsH (by omega) (by omega))) dX6_put_19 20 rfl (ws' := rowW E b N (updZ g i v)) rfl (fun H3 lo3 hzz hM hF h_r => ?_)
      subst hQ; exact m_vret X hr hlk hM dX6_put_20 rfl ⟨rfl, h_r⟩
set_option maxHeartbeats 4000000 in
set_option maxRecDepth 20000 in
theorem c_X6_add (l : Launch) (E : Nat → Nat → Nat) (b : Nat) (N : Nat) (g : Int → Int) (i : Int) (v : Int) (h0 : 0 ≤ i) (h1 : i < N) (h2 : N < 2147483648) : Mu l yX6_add cX6_add 3 none 1 0 0 E [(b, 2)] [.ref b, .int (zI i), .int (zI v)] (fun H => PR E b (rowW E b N g) H) (fun rv H => rv = none ∧ PR E b (rowW E b N (updZ g i (g i + v))) H) := by
  refine Mu.start (own := RX6) rfl (by decide +kernel) (Nat.le_of_ble_eq_true rfl) ?_
  intro p e s m below meth cd args Q hQ X hr hlk hnm hM hPr
  have h_r := hPr
  refine v_aload_n X dX6_add_0 1 rfl 0 rfl ?_
  refine v_iload_n X dX6_add_1 2 rfl 1 rfl ?_
  refine v_aload_n X dX6_add_2 3 rfl 0 rfl ?_
  refine v_iload_n X dX6_add_3 4 rfl 1 rfl ?_
  refine v_rdV X hM.C h_r.1 (c_X6_get l E b N g i h0 h1 h2) kvX6_get kiX6_get kl_X6_13 rfl rfl (As := [.int (zI i)]) rfl rfl rfl dX6_add_4 7 rfl ?_
  show V p l e (rmL 1 0 0) s m args below meth cd Q 3 s.heap [] 0 0 7 [(0, .ref b), (1, .int (zI i)), (2, .int (zI v))] [.int (zI (g i)), .int (zI i), .ref b]
  refine v_iload_n X dX6_add_7 8 rfl 2 rfl ?_
  refine v_iadd X dX6_add_8 9 rfl ?_
  refine v_muV X hM (h_r.1) (c_X6_put l E b N g i (g i + v) h0 h1 h2) kvX6_put kiX6_put kl_X6_17 (q0 := 0) rfl rfl (As := [.int (zI i), .int (zI (g i + v))]) rfl rfl rfl dX6_add_9 12 rfl (k' := 0) (n' := 0) rfl rfl (fsI (fun q q1 q2 => (Or.inl (fsH (by omega) (by omega))))) h_r (fun rv H1 lo1 hM hF hpo => ?_)
  obtain ⟨rfl, hw_0⟩ := hpo
  have h_r : PR E b (rowW E b N (updZ g i (g i + v))) H1 := hw_0
  show V p l e (rmL 1 0 0) s m args below meth cd Q 3 H1 lo1 0 0 12 [(0, .ref b), (1, .int (zI i)), (2, .int (zI v))] []
  subst hQ; exact m_vret X hr hlk hM dX6_add_12 rfl ⟨rfl, h_r⟩
set_option maxHeartbeats 4000000 in
set_option maxRecDepth 20000 in
theorem c_X0_hasCase (l : Launch) (E : Nat → Nat → Nat) (b : Nat) (co : Nat → Int → Int) (x : Int) (hO : OkC co) (hx : Rg x) : Rd l yX0_hasCase cX0_hasCase 2 (some .boolean) 0 E [.ref b, .int (zI x)] (courtW E b co) (some (.int (zI (bz (0 ≤ x ∧ x < co 0 0))))) := by
  refine Rd.start (own := RX0) rfl (by decide +kernel) (Nat.le_of_ble_eq_true rfl) ?_
  intro p e s m below meth cd args Q hQ X hr hlk hC hP
  have h_co := hP
  refine v_iload_n X dX0_hasCase_0 1 rfl 1 rfl ?_
  refine v_if_lt X (by omega) dX0_hasCase_1 4 16 rfl (by decide) (fun c_1 => ?_) (fun c_1 => ?_)
  · skip
    refine v_iconst X dX0_hasCase_16 17 rfl ?_
    subst hQ; exact v_zret0 X hr hlk dX0_hasCase_17 (bz_f (by omega))
  · skip
    refine v_iload_n X dX0_hasCase_4 5 rfl 1 rfl ?_
    refine v_aload_n X dX0_hasCase_5 6 rfl 0 rfl ?_
    refine v_getf X hC h_co inX0 0 rfl rfl 0 (by decide) kf_X0_9 (fun _ h => h) rfl dX0_hasCase_6 9 rfl ?_
    show V p l e (rmL 0 0 0) s m args below meth cd Q 2 s.heap [] 0 0 9 [(0, .ref b), (1, .int (zI x))] [.int (zI (co 0 0)), .int (zI x)]
    have hb_3 := hO.b0
    refine v_icmp_ge X (by omega) (by omega) dX0_hasCase_9 12 16 rfl (by decide) (fun c_2 => ?_) (fun c_2 => ?_)
    · skip
      refine v_iconst X dX0_hasCase_16 17 rfl ?_
      subst hQ; exact v_zret0 X hr hlk dX0_hasCase_17 (bz_f (by omega))
    · skip
      refine v_iconst X dX0_hasCase_12 13 rfl ?_
      refine v_goto X dX0_hasCase_13 17 (by decide) ?_
      subst hQ; exact v_zret0 X hr hlk dX0_hasCase_17 (bz_t (by omega))
set_option maxHeartbeats 4000000 in
set_option maxRecDepth 20000 in
theorem c_X0_hasWitness (l : Launch) (E : Nat → Nat → Nat) (b : Nat) (co : Nat → Int → Int) (x : Int) (hO : OkC co) (hx : Rg x) : Rd l yX0_hasWitness cX0_hasWitness 2 (some .boolean) 0 E [.ref b, .int (zI x)] (courtW E b co) (some (.int (zI (bz (0 ≤ x ∧ x < co 0 1))))) := by
  refine Rd.start (own := RX0) rfl (by decide +kernel) (Nat.le_of_ble_eq_true rfl) ?_
  intro p e s m below meth cd args Q hQ X hr hlk hC hP
  have h_co := hP
  refine v_iload_n X dX0_hasWitness_0 1 rfl 1 rfl ?_
  refine v_if_lt X (by omega) dX0_hasWitness_1 4 16 rfl (by decide) (fun c_1 => ?_) (fun c_1 => ?_)
  · skip
    refine v_iconst X dX0_hasWitness_16 17 rfl ?_
    subst hQ; exact v_zret0 X hr hlk dX0_hasWitness_17 (bz_f (by omega))
  · skip
    refine v_iload_n X dX0_hasWitness_4 5 rfl 1 rfl ?_
    refine v_aload_n X dX0_hasWitness_5 6 rfl 0 rfl ?_
    refine v_getf X hC h_co inX0 0 rfl rfl 1 (by decide) kf_X0_15 (fun _ h => h) rfl dX0_hasWitness_6 9 rfl ?_
    show V p l e (rmL 0 0 0) s m args below meth cd Q 2 s.heap [] 0 0 9 [(0, .ref b), (1, .int (zI x))] [.int (zI (co 0 1)), .int (zI x)]
    have hb_3 := hO.bw
    refine v_icmp_ge X (by omega) (by omega) dX0_hasWitness_9 12 16 rfl (by decide) (fun c_2 => ?_) (fun c_2 => ?_)
    · skip
      refine v_iconst X dX0_hasWitness_16 17 rfl ?_
      subst hQ; exact v_zret0 X hr hlk dX0_hasWitness_17 (bz_f (by omega))
    · skip
      refine v_iconst X dX0_hasWitness_12 13 rfl ?_
      refine v_goto X dX0_hasWitness_13 17 (by decide) ?_
      subst hQ; exact v_zret0 X hr hlk dX0_hasWitness_17 (bz_t (by omega))
set_option maxHeartbeats 4000000 in
set_option maxRecDepth 20000 in
theorem c_X0_isIn (l : Launch) (E : Nat → Nat → Nat) (b : Nat) (co : Nat → Int → Int) (ph : Int) (k : Int) (hO : OkC co) (k0 : 0 ≤ k) (k1 : k < 16) (hph : 0 ≤ ph ∧ ph ≤ 2) : Rd l yX0_isIn cX0_isIn 3 (some .boolean) 1 E [.ref b, .int (zI ph), .int (zI k)] (courtW E b co) (some (.int (zI (bz (co 3 k = ph))))) := by
  refine Rd.start (own := RX0) rfl (by decide +kernel) (Nat.le_of_ble_eq_true rfl) ?_
  intro p e s m below meth cd args Q hQ X hr hlk hC hP
  have h_co := hP
  refine v_aload_n X dX0_isIn_0 1 rfl 0 rfl ?_
  refine v_getf X hC h_co inX0 0 rfl rfl 6 (by decide) kf_X0_36 (fun _ h => h) rfl dX0_isIn_1 4 rfl ?_
  refine v_iload_n X dX0_isIn_4 5 rfl 2 rfl ?_
  refine v_rdV X hC (PW.part h_co 5 2 (wc := rowW E (b + 5) 16 (co 3)) rfl) (c_X6_get l E (b + 5) 16 (co 3) k k0 k1 (by omega)) kvX6_get kiX6_get kl_X0_157 rfl rfl (As := [.int (zI k)]) rfl rfl rfl dX0_isIn_5 8 rfl ?_
  show V p l e (rmL 1 0 0) s m args below meth cd Q 3 s.heap [] 0 0 8 [(0, .ref b), (1, .int (zI ph)), (2, .int (zI k))] [.int (zI (co 3 k))]
  have hb_1 := hO.b3 k
  refine v_iload_n X dX0_isIn_8 9 rfl 1 rfl ?_
  refine v_icmp_ne X (by omega) (by omega) dX0_isIn_9 12 16 rfl (by decide) (fun c_2 => ?_) (fun c_2 => ?_)
  · skip
    refine v_iconst X dX0_isIn_16 17 rfl ?_
    subst hQ; exact v_zret0 X hr hlk dX0_isIn_17 (bz_f (by omega))
  · skip
    refine v_iconst X dX0_isIn_12 13 rfl ?_
    refine v_goto X dX0_isIn_13 17 (by decide) ?_
    subst hQ; exact v_zret0 X hr hlk dX0_isIn_17 (bz_t (by omega))
set_option maxHeartbeats 4000000 in
set_option maxRecDepth 20000 in
theorem c_X0_isFoundGuilty (l : Launch) (E : Nat → Nat → Nat) (b : Nat) (co : Nat → Int → Int) (k : Int) (hO : OkC co) (k0 : 0 ≤ k) (k1 : k < 16) : Rd l yX0_isFoundGuilty cX0_isFoundGuilty 2 (some .boolean) 1 E [.ref b, .int (zI k)] (courtW E b co) (some (.int (zI (bz (¬ co 4 k = 0))))) := by
  refine Rd.start (own := RX0) rfl (by decide +kernel) (Nat.le_of_ble_eq_true rfl) ?_
  intro p e s m below meth cd args Q hQ X hr hlk hC hP
  have h_co := hP
  refine v_aload_n X dX0_isFoundGuilty_0 1 rfl 0 rfl ?_
  refine v_getf X hC h_co inX0 0 rfl rfl 7 (by decide) kf_X0_39 (fun _ h => h) rfl dX0_isFoundGuilty_1 4 rfl ?_
  refine v_iload_n X dX0_isFoundGuilty_4 5 rfl 1 rfl ?_
  refine v_rdV X hC (PW.part h_co 7 2 (wc := rowW E (b + 7) 16 (co 4)) rfl) (c_X6_get l E (b + 7) 16 (co 4) k k0 k1 (by omega)) kvX6_get kiX6_get kl_X0_157 rfl rfl (As := [.int (zI k)]) rfl rfl rfl dX0_isFoundGuilty_5 8 rfl ?_
  show V p l e (rmL 1 0 0) s m args below meth cd Q 2 s.heap [] 0 0 8 [(0, .ref b), (1, .int (zI k))] [.int (zI (co 4 k))]
  have hb_1 := hO.b4 k
  refine v_if_eq X (by omega) dX0_isFoundGuilty_8 11 15 rfl (by decide) (fun c_2 => ?_) (fun c_2 => ?_)
  · skip
    refine v_iconst X dX0_isFoundGuilty_15 16 rfl ?_
    subst hQ; exact v_zret0 X hr hlk dX0_isFoundGuilty_16 (bz_f (by omega))
  · skip
    refine v_iconst X dX0_isFoundGuilty_11 12 rfl ?_
    refine v_goto X dX0_isFoundGuilty_12 16 (by decide) ?_
    subst hQ; exact v_zret0 X hr hlk dX0_isFoundGuilty_16 (bz_t (by omega))
set_option maxHeartbeats 4000000 in
set_option maxRecDepth 20000 in
theorem c_X0_severityIn (l : Launch) (E : Nat → Nat → Nat) (b : Nat) (co : Nat → Int → Int) (k : Int) (k0 : 0 ≤ k) (k1 : k < 16) : Rd l yX0_severityIn cX0_severityIn 2 (some .int) 1 E [.ref b, .int (zI k)] (courtW E b co) (some (.int (zI (co 2 k + 1)))) := by
  refine Rd.start (own := RX0) rfl (by decide +kernel) (Nat.le_of_ble_eq_true rfl) ?_
  intro p e s m below meth cd args Q hQ X hr hlk hC hP
  have h_co := hP
  refine v_aload_n X dX0_severityIn_0 1 rfl 0 rfl ?_
  refine v_getf X hC h_co inX0 0 rfl rfl 5 (by decide) kf_X0_33 (fun _ h => h) rfl dX0_severityIn_1 4 rfl ?_
  refine v_iload_n X dX0_severityIn_4 5 rfl 1 rfl ?_
  refine v_rdV X hC (PW.part h_co 3 2 (wc := rowW E (b + 3) 16 (co 2)) rfl) (c_X6_get l E (b + 3) 16 (co 2) k k0 k1 (by omega)) kvX6_get kiX6_get kl_X0_157 rfl rfl (As := [.int (zI k)]) rfl rfl rfl dX0_severityIn_5 8 rfl ?_
  show V p l e (rmL 1 0 0) s m args below meth cd Q 2 s.heap [] 0 0 8 [(0, .ref b), (1, .int (zI k))] [.int (zI (co 2 k))]
  refine v_iconst X dX0_severityIn_8 9 rfl ?_
  refine v_iadd X dX0_severityIn_9 10 rfl ?_
  subst hQ; exact v_iret0 X hr hlk dX0_severityIn_10 rfl
set_option maxHeartbeats 4000000 in
set_option maxRecDepth 20000 in
theorem c_X0_cellOf (l : Launch) (E : Nat → Nat → Nat) (k : Int) (w : Int) : Rd l yX0_cellOf cX0_cellOf 2 (some .int) 0 E [.int (zI k), .int (zI w)] ([]) (some (.int (zI (k * 8 + w)))) := by
  refine Rd.start (own := RX0) rfl (by decide +kernel) (Nat.le_of_ble_eq_true rfl) ?_
  intro p e s m below meth cd args Q hQ X hr hlk hC hP
  refine v_iload_n X dX0_cellOf_0 1 rfl 0 rfl ?_
  refine v_bipush X dX0_cellOf_1 3 rfl rfl ?_
  refine v_imul X dX0_cellOf_3 4 rfl ?_
  refine v_iload_n X dX0_cellOf_4 5 rfl 1 rfl ?_
  refine v_iadd X dX0_cellOf_5 6 rfl ?_
  subst hQ; exact v_iret0 X hr hlk dX0_cellOf_6 rfl
set_option maxHeartbeats 4000000 in
set_option maxRecDepth 20000 in
theorem c_X0_hasHeard (l : Launch) (E : Nat → Nat → Nat) (b : Nat) (co : Nat → Int → Int) (k : Int) (w : Int) (hO : OkC co) (k0 : 0 ≤ k) (k1 : k < 16) (w0 : 0 ≤ w) (w1 : w < 8) : Rd l yX0_hasHeard cX0_hasHeard 3 (some .boolean) 1 E [.ref b, .int (zI k), .int (zI w)] (courtW E b co) (some (.int (zI (bz (0 < co 9 (k * 8 + w)))))) := by
  refine Rd.start (own := RX0) rfl (by decide +kernel) (Nat.le_of_ble_eq_true rfl) ?_
  intro p e s m below meth cd args Q hQ X hr hlk hC hP
  have h_co := hP
  refine v_aload_n X dX0_hasHeard_0 1 rfl 0 rfl ?_
  refine v_getf X hC h_co inX0 0 rfl rfl 12 (by decide) kf_X0_54 (fun _ h => h) rfl dX0_hasHeard_1 4 rfl ?_
  refine v_iload_n X dX0_hasHeard_4 5 rfl 1 rfl ?_
  refine v_iload_n X dX0_hasHeard_5 6 rfl 2 rfl ?_
  refine v_rdS X hC (ws0 E s.heap) (c_X0_cellOf l E k w) kvX0_cellOf ksX0_cellOf kl_X0_180 (As := [.int (zI k), .int (zI w)]) rfl rfl rfl dX0_hasHeard_6 9 rfl ?_
  show V p l e (rmL 1 0 0) s m args below meth cd Q 3 s.heap [] 0 0 9 [(0, .ref b), (1, .int (zI k)), (2, .int (zI w))] [.int (zI (k * 8 + w)), .ref (b + 17)]
  refine v_rdV X hC (PW.part h_co 17 2 (wc := rowW E (b + 17) 128 (co 9)) rfl) (c_X6_get l E (b + 17) 128 (co 9) (k * 8 + w) (by omega) (by omega) (by omega)) kvX6_get kiX6_get kl_X0_157 rfl rfl (As := [.int (zI (k * 8 + w))]) rfl rfl rfl dX0_hasHeard_9 12 rfl ?_
  show V p l e (rmL 1 0 0) s m args below meth cd Q 3 s.heap [] 0 0 12 [(0, .ref b), (1, .int (zI k)), (2, .int (zI w))] [.int (zI (co 9 (k * 8 + w)))]
  have hb_1 := hO.b9 (k * 8 + w)
  refine v_if_le X (by omega) dX0_hasHeard_12 15 19 rfl (by decide) (fun c_2 => ?_) (fun c_2 => ?_)
  · skip
    refine v_iconst X dX0_hasHeard_19 20 rfl ?_
    subst hQ; exact v_zret0 X hr hlk dX0_hasHeard_20 (bz_f (by omega))
  · skip
    refine v_iconst X dX0_hasHeard_15 16 rfl ?_
    refine v_goto X dX0_hasHeard_16 20 (by decide) ?_
    subst hQ; exact v_zret0 X hr hlk dX0_hasHeard_20 (bz_t (by omega))
set_option maxHeartbeats 4000000 in
set_option maxRecDepth 20000 in
theorem c_X0_witnessHeardAt (l : Launch) (E : Nat → Nat → Nat) (b : Nat) (co : Nat → Int → Int) (k : Int) (q : Int) (k0 : 0 ≤ k) (k1 : k < 16) (q0 : 0 ≤ q) (q1 : q < 6) : Rd l yX0_witnessHeardAt cX0_witnessHeardAt 3 (some .int) 1 E [.ref b, .int (zI k), .int (zI q)] (courtW E b co) (some (.int (zI (co 7 (k * 6 + q))))) := by
  refine Rd.start (own := RX0) rfl (by decide +kernel) (Nat.le_of_ble_eq_true rfl) ?_
  intro p e s m below meth cd args Q hQ X hr hlk hC hP
  have h_co := hP
  refine v_aload_n X dX0_witnessHeardAt_0 1 rfl 0 rfl ?_
  refine v_getf X hC h_co inX0 0 rfl rfl 10 (by decide) kf_X0_48 (fun _ h => h) rfl dX0_witnessHeardAt_1 4 rfl ?_
  refine v_iload_n X dX0_witnessHeardAt_4 5 rfl 1 rfl ?_
  refine v_bipush X dX0_witnessHeardAt_5 7 rfl rfl ?_
  refine v_imul X dX0_witnessHeardAt_7 8 rfl ?_
  refine v_iload_n X dX0_witnessHeardAt_8 9 rfl 2 rfl ?_
  refine v_iadd X dX0_witnessHeardAt_9 10 rfl ?_
  refine v_rdV X hC (PW.part h_co 13 2 (wc := rowW E (b + 13) 96 (co 7)) rfl) (c_X6_get l E (b + 13) 96 (co 7) (k * 6 + q) (by omega) (by omega) (by omega)) kvX6_get kiX6_get kl_X0_157 rfl rfl (As := [.int (zI (k * 6 + q))]) rfl rfl rfl dX0_witnessHeardAt_10 13 rfl ?_
  show V p l e (rmL 1 0 0) s m args below meth cd Q 3 s.heap [] 0 0 13 [(0, .ref b), (1, .int (zI k)), (2, .int (zI q))] [.int (zI (co 7 (k * 6 + q)))]
  subst hQ; exact v_iret0 X hr hlk dX0_witnessHeardAt_13 rfl
set_option maxHeartbeats 4000000 in
set_option maxRecDepth 20000 in
theorem c_X0_sideOf (l : Launch) (E : Nat → Nat → Nat) (b : Nat) (co : Nat → Int → Int) (k : Int) (w : Int) (k0 : 0 ≤ k) (k1 : k < 16) (w0 : 0 ≤ w) (w1 : w < 8) : Rd l yX0_sideOf cX0_sideOf 3 (some .int) 1 E [.ref b, .int (zI k), .int (zI w)] (courtW E b co) (some (.int (zI (co 8 (k * 8 + w))))) := by
  refine Rd.start (own := RX0) rfl (by decide +kernel) (Nat.le_of_ble_eq_true rfl) ?_
  intro p e s m below meth cd args Q hQ X hr hlk hC hP
  have h_co := hP
  refine v_aload_n X dX0_sideOf_0 1 rfl 0 rfl ?_
  refine v_getf X hC h_co inX0 0 rfl rfl 11 (by decide) kf_X0_51 (fun _ h => h) rfl dX0_sideOf_1 4 rfl ?_
  refine v_iload_n X dX0_sideOf_4 5 rfl 1 rfl ?_
  refine v_iload_n X dX0_sideOf_5 6 rfl 2 rfl ?_
  refine v_rdS X hC (ws0 E s.heap) (c_X0_cellOf l E k w) kvX0_cellOf ksX0_cellOf kl_X0_180 (As := [.int (zI k), .int (zI w)]) rfl rfl rfl dX0_sideOf_6 9 rfl ?_
  show V p l e (rmL 1 0 0) s m args below meth cd Q 3 s.heap [] 0 0 9 [(0, .ref b), (1, .int (zI k)), (2, .int (zI w))] [.int (zI (k * 8 + w)), .ref (b + 15)]
  refine v_rdV X hC (PW.part h_co 15 2 (wc := rowW E (b + 15) 128 (co 8)) rfl) (c_X6_get l E (b + 15) 128 (co 8) (k * 8 + w) (by omega) (by omega) (by omega)) kvX6_get kiX6_get kl_X0_157 rfl rfl (As := [.int (zI (k * 8 + w))]) rfl rfl rfl dX0_sideOf_9 12 rfl ?_
  show V p l e (rmL 1 0 0) s m args below meth cd Q 3 s.heap [] 0 0 12 [(0, .ref b), (1, .int (zI k)), (2, .int (zI w))] [.int (zI (co 8 (k * 8 + w)))]
  subst hQ; exact v_iret0 X hr hlk dX0_sideOf_12 rfl
set_option maxHeartbeats 4000000 in
set_option maxRecDepth 20000 in
theorem c_X0_strengthOf (l : Launch) (E : Nat → Nat → Nat) (b : Nat) (co : Nat → Int → Int) (k : Int) (w : Int) (k0 : 0 ≤ k) (k1 : k < 16) (w0 : 0 ≤ w) (w1 : w < 8) : Rd l yX0_strengthOf cX0_strengthOf 3 (some .int) 1 E [.ref b, .int (zI k), .int (zI w)] (courtW E b co) (some (.int (zI (co 9 (k * 8 + w))))) := by
  refine Rd.start (own := RX0) rfl (by decide +kernel) (Nat.le_of_ble_eq_true rfl) ?_
  intro p e s m below meth cd args Q hQ X hr hlk hC hP
  have h_co := hP
  refine v_aload_n X dX0_strengthOf_0 1 rfl 0 rfl ?_
  refine v_getf X hC h_co inX0 0 rfl rfl 12 (by decide) kf_X0_54 (fun _ h => h) rfl dX0_strengthOf_1 4 rfl ?_
  refine v_iload_n X dX0_strengthOf_4 5 rfl 1 rfl ?_
  refine v_iload_n X dX0_strengthOf_5 6 rfl 2 rfl ?_
  refine v_rdS X hC (ws0 E s.heap) (c_X0_cellOf l E k w) kvX0_cellOf ksX0_cellOf kl_X0_180 (As := [.int (zI k), .int (zI w)]) rfl rfl rfl dX0_strengthOf_6 9 rfl ?_
  show V p l e (rmL 1 0 0) s m args below meth cd Q 3 s.heap [] 0 0 9 [(0, .ref b), (1, .int (zI k)), (2, .int (zI w))] [.int (zI (k * 8 + w)), .ref (b + 17)]
  refine v_rdV X hC (PW.part h_co 17 2 (wc := rowW E (b + 17) 128 (co 9)) rfl) (c_X6_get l E (b + 17) 128 (co 9) (k * 8 + w) (by omega) (by omega) (by omega)) kvX6_get kiX6_get kl_X0_157 rfl rfl (As := [.int (zI (k * 8 + w))]) rfl rfl rfl dX0_strengthOf_9 12 rfl ?_
  show V p l e (rmL 1 0 0) s m args below meth cd Q 3 s.heap [] 0 0 12 [(0, .ref b), (1, .int (zI k)), (2, .int (zI w))] [.int (zI (co 9 (k * 8 + w)))]
  subst hQ; exact v_iret0 X hr hlk dX0_strengthOf_12 rfl
set_option maxHeartbeats 4000000 in
set_option maxRecDepth 20000 in
theorem c_X0_questionsTo (l : Launch) (E : Nat → Nat → Nat) (b : Nat) (co : Nat → Int → Int) (k : Int) (w : Int) (k0 : 0 ≤ k) (k1 : k < 16) (w0 : 0 ≤ w) (w1 : w < 8) : Rd l yX0_questionsTo cX0_questionsTo 3 (some .int) 1 E [.ref b, .int (zI k), .int (zI w)] (courtW E b co) (some (.int (zI (co 10 (k * 8 + w))))) := by
  refine Rd.start (own := RX0) rfl (by decide +kernel) (Nat.le_of_ble_eq_true rfl) ?_
  intro p e s m below meth cd args Q hQ X hr hlk hC hP
  have h_co := hP
  refine v_aload_n X dX0_questionsTo_0 1 rfl 0 rfl ?_
  refine v_getf X hC h_co inX0 0 rfl rfl 13 (by decide) kf_X0_57 (fun _ h => h) rfl dX0_questionsTo_1 4 rfl ?_
  refine v_iload_n X dX0_questionsTo_4 5 rfl 1 rfl ?_
  refine v_iload_n X dX0_questionsTo_5 6 rfl 2 rfl ?_
  refine v_rdS X hC (ws0 E s.heap) (c_X0_cellOf l E k w) kvX0_cellOf ksX0_cellOf kl_X0_180 (As := [.int (zI k), .int (zI w)]) rfl rfl rfl dX0_questionsTo_6 9 rfl ?_
  show V p l e (rmL 1 0 0) s m args below meth cd Q 3 s.heap [] 0 0 9 [(0, .ref b), (1, .int (zI k)), (2, .int (zI w))] [.int (zI (k * 8 + w)), .ref (b + 19)]
  refine v_rdV X hC (PW.part h_co 19 2 (wc := rowW E (b + 19) 128 (co 10)) rfl) (c_X6_get l E (b + 19) 128 (co 10) (k * 8 + w) (by omega) (by omega) (by omega)) kvX6_get kiX6_get kl_X0_157 rfl rfl (As := [.int (zI (k * 8 + w))]) rfl rfl rfl dX0_questionsTo_9 12 rfl ?_
  show V p l e (rmL 1 0 0) s m args below meth cd Q 3 s.heap [] 0 0 12 [(0, .ref b), (1, .int (zI k)), (2, .int (zI w))] [.int (zI (co 10 (k * 8 + w)))]
  subst hQ; exact v_iret0 X hr hlk dX0_questionsTo_12 rfl
set_option maxHeartbeats 4000000 in
set_option maxRecDepth 20000 in
theorem c_X0_weightOf (l : Launch) (E : Nat → Nat → Nat) (b : Nat) (co : Nat → Int → Int) (k : Int) (w : Int) (hO : OkC co) (k0 : 0 ≤ k) (k1 : k < 16) (w0 : 0 ≤ w) (w1 : w < 8) : Rd l yX0_weightOf cX0_weightOf 3 (some .int) 1 E [.ref b, .int (zI k), .int (zI w)] (courtW E b co) (some (.int (zI (co 9 (k * 8 + w) * co 11 w)))) := by
  refine Rd.start (own := RX0) rfl (by decide +kernel) (Nat.le_of_ble_eq_true rfl) ?_
  intro p e s m below meth cd args Q hQ X hr hlk hC hP
  have h_co := hP
  refine v_aload_n X dX0_weightOf_0 1 rfl 0 rfl ?_
  refine v_getf X hC h_co inX0 0 rfl rfl 12 (by decide) kf_X0_54 (fun _ h => h) rfl dX0_weightOf_1 4 rfl ?_
  refine v_iload_n X dX0_weightOf_4 5 rfl 1 rfl ?_
  refine v_iload_n X dX0_weightOf_5 6 rfl 2 rfl ?_
  refine v_rdS X hC (ws0 E s.heap) (c_X0_cellOf l E k w) kvX0_cellOf ksX0_cellOf kl_X0_180 (As := [.int (zI k), .int (zI w)]) rfl rfl rfl dX0_weightOf_6 9 rfl ?_
  show V p l e (rmL 1 0 0) s m args below meth cd Q 3 s.heap [] 0 0 9 [(0, .ref b), (1, .int (zI k)), (2, .int (zI w))] [.int (zI (k * 8 + w)), .ref (b + 17)]
  refine v_rdV X hC (PW.part h_co 17 2 (wc := rowW E (b + 17) 128 (co 9)) rfl) (c_X6_get l E (b + 17) 128 (co 9) (k * 8 + w) (by omega) (by omega) (by omega)) kvX6_get kiX6_get kl_X0_157 rfl rfl (As := [.int (zI (k * 8 + w))]) rfl rfl rfl dX0_weightOf_9 12 rfl ?_
  show V p l e (rmL 1 0 0) s m args below meth cd Q 3 s.heap [] 0 0 12 [(0, .ref b), (1, .int (zI k)), (2, .int (zI w))] [.int (zI (co 9 (k * 8 + w)))]
  have hb_1 := hO.b9 (k * 8 + w)
  refine v_aload_n X dX0_weightOf_12 13 rfl 0 rfl ?_
  refine v_getf X hC h_co inX0 0 rfl rfl 14 (by decide) kf_X0_60 (fun _ h => h) rfl dX0_weightOf_13 16 rfl ?_
  refine v_iload_n X dX0_weightOf_16 17 rfl 2 rfl ?_
  refine v_rdV X hC (PW.part h_co 21 2 (wc := rowW E (b + 21) 8 (co 11)) rfl) (c_X6_get l E (b + 21) 8 (co 11) w w0 w1 (by omega)) kvX6_get kiX6_get kl_X0_157 rfl rfl (As := [.int (zI w)]) rfl rfl rfl dX0_weightOf_17 20 rfl ?_
  show V p l e (rmL 1 0 0) s m args below meth cd Q 3 s.heap [] 0 0 20 [(0, .ref b), (1, .int (zI k)), (2, .int (zI w))] [.int (zI (co 11 w)), .int (zI (co 9 (k * 8 + w)))]
  have hb_2 := hO.b11 w
  refine v_imul X dX0_weightOf_20 21 rfl ?_
  subst hQ; exact v_iret0 X hr hlk dX0_weightOf_21 (by omega)
set_option maxHeartbeats 4000000 in
set_option maxRecDepth 20000 in
theorem c_X0_countIn (l : Launch) (E : Nat → Nat → Nat) (b : Nat) (co : Nat → Int → Int) (ph : Int) (hO : OkC co) (hph : 0 ≤ ph ∧ ph ≤ 2) : Rd l yX0_countIn cX0_countIn 4 (some .int) 2 E [.ref b, .int (zI ph)] (courtW E b co) (some (.int (zI (sumZ (fun j => bz (co 3 j = ph)) (co 0 0).toNat)))) := by
  refine Rd.start (own := RX0) rfl (by decide +kernel) (Nat.le_of_ble_eq_true rfl) ?_
  intro p e s m below meth cd args Q hQ X hr hlk hC hP
  have h_co := hP
  refine v_iconst X dX0_countIn_0 1 rfl ?_
  refine v_istore_n X dX0_countIn_1 2 rfl rfl (by decide) (L' := [(2, .int (zI 0)), (0, .ref b), (1, .int (zI ph))]) rfl ?_
  refine v_iconst X dX0_countIn_2 3 rfl ?_
  refine v_istore_n X dX0_countIn_3 4 rfl rfl (by decide) (L' := [(3, .int (zI 0)), (2, .int (zI 0)), (0, .ref b), (1, .int (zI ph))]) rfl ?_
  refine V_L (L' := [(3, .int (zI 0)), (2, .int (zI (sumZ (fun j => bz (co 3 j = ph)) 0))), (0, .ref b), (1, .int (zI ph))]) (LC rfl (LC (vz (by rfl)) (LC rfl (LC rfl rfl)))) ?_
  refine up_loop ((co 0 0).toNat) (P := fun (i : Nat) => V p l e (rmL 2 0 0) s m args below meth cd Q 4 s.heap [] 0 0 4 [(3, .int (zI (i : Int))), (2, .int (zI (sumZ (fun j => bz (co 3 j = ph)) i))), (0, .ref b), (1, .int (zI ph))] []) (fun i hi_i ih_i => ?_)
  refine v_iload_n X dX0_countIn_4 5 rfl 0 rfl ?_
  refine v_aload_n X dX0_countIn_5 6 rfl 2 rfl ?_
  refine v_getf X hC h_co inX0 0 rfl rfl 0 (by decide) kf_X0_9 (fun _ h => h) rfl dX0_countIn_6 9 rfl ?_
  show V p l e (rmL 2 0 0) s m args below meth cd Q 4 s.heap [] 0 0 9 [(3, .int (zI (i : Int))), (2, .int (zI (sumZ (fun j => bz (co 3 j = ph)) i))), (0, .ref b), (1, .int (zI ph))] [.int (zI (co 0 0)), .int (zI (i : Int))]
  have hb_2 := hO.b0
  refine v_icmp_ge X (by omega) (by omega) dX0_countIn_9 12 30 rfl (by decide) (fun c_1 => ?_) (fun c_1 => ?_)
  · skip
    refine v_iload_n X dX0_countIn_30 31 rfl 1 rfl ?_
    subst hQ; exact v_iret0 X hr hlk dX0_countIn_31 (by rw [show i = (co 0 0).toNat by omega])
  · skip
    refine v_aload_n X dX0_countIn_12 13 rfl 2 rfl ?_
    refine v_iload_n X dX0_countIn_13 14 rfl 3 rfl ?_
    refine v_iload_n X dX0_countIn_14 15 rfl 0 rfl ?_
    refine v_rdV X hC h_co (c_X0_isIn l E b co ph (i : Int) hO (by omega) (by omega) hph) kvX0_isIn kiX0_isIn kl_X0_160 rfl rfl (As := [.int (zI ph), .int (zI (i : Int))]) rfl rfl rfl dX0_countIn_15 18 rfl ?_
    show V p l e (rmL 2 0 0) s m args below meth cd Q 4 s.heap [] 0 0 18 [(3, .int (zI (i : Int))), (2, .int (zI (sumZ (fun j => bz (co 3 j = ph)) i))), (0, .ref b), (1, .int (zI ph))] [.int (zI (bz (co 3 (i : Int) = ph)))]
    refine v_bif_eq X dX0_countIn_18 21 24 rfl (by decide) (fun c_3 => ?_) (fun c_3 => ?_)
    · skip
      refine v_iinc X dX0_countIn_24 27 rfl 0 rfl (by decide) (L' := [(3, .int (zI ((i : Int) + 1))), (2, .int (zI (sumZ (fun j => bz (co 3 j = ph)) i))), (0, .ref b), (1, .int (zI ph))]) rfl ?_
      refine v_goto X dX0_countIn_27 4 (by decide) ?_
      exact V_L (L' := [(3, .int (zI ((i + 1 : Nat) : Int))), (2, .int (zI (sumZ (fun j => bz (co 3 j = ph)) (i + 1)))), (0, .ref b), (1, .int (zI ph))]) (LC (vz (by omega)) (LC (vz (by first | rw [sumZ_s, bz_t (φ := co 3 (i : Int) = ph) (by first | assumption | omega)] | (rw [sumZ_s, bz_f (φ := co 3 (i : Int) = ph) (by first | assumption | omega)]; omega))) (LC rfl (LC rfl rfl)))) (ih_i (by omega))
    · skip
      refine v_iinc X dX0_countIn_21 24 rfl 1 rfl (by decide) (L' := [(2, .int (zI (sumZ (fun j => bz (co 3 j = ph)) i + 1))), (3, .int (zI (i : Int))), (0, .ref b), (1, .int (zI ph))]) rfl ?_
      refine v_iinc X dX0_countIn_24 27 rfl 1 rfl (by decide) (L' := [(3, .int (zI ((i : Int) + 1))), (2, .int (zI (sumZ (fun j => bz (co 3 j = ph)) i + 1))), (0, .ref b), (1, .int (zI ph))]) rfl ?_
      refine v_goto X dX0_countIn_27 4 (by decide) ?_
      exact V_L (L' := [(3, .int (zI ((i + 1 : Nat) : Int))), (2, .int (zI (sumZ (fun j => bz (co 3 j = ph)) (i + 1)))), (0, .ref b), (1, .int (zI ph))]) (LC (vz (by omega)) (LC (vz (by first | rw [sumZ_s, bz_t (φ := co 3 (i : Int) = ph) (by first | assumption | omega)] | (rw [sumZ_s, bz_f (φ := co 3 (i : Int) = ph) (by first | assumption | omega)]; omega))) (LC rfl (LC rfl rfl)))) (ih_i (by omega))
set_option maxHeartbeats 4000000 in
set_option maxRecDepth 20000 in
theorem c_X0_countGuilty (l : Launch) (E : Nat → Nat → Nat) (b : Nat) (co : Nat → Int → Int) (hO : OkC co) : Rd l yX0_countGuilty cX0_countGuilty 3 (some .int) 2 E [.ref b] (courtW E b co) (some (.int (zI (sumZ (fun j => bz (¬ co 4 j = 0)) (co 0 0).toNat)))) := by
  refine Rd.start (own := RX0) rfl (by decide +kernel) (Nat.le_of_ble_eq_true rfl) ?_
  intro p e s m below meth cd args Q hQ X hr hlk hC hP
  have h_co := hP
  refine v_iconst X dX0_countGuilty_0 1 rfl ?_
  refine v_istore_n X dX0_countGuilty_1 2 rfl rfl (by decide) (L' := [(1, .int (zI 0)), (0, .ref b)]) rfl ?_
  refine v_iconst X dX0_countGuilty_2 3 rfl ?_
  refine v_istore_n X dX0_countGuilty_3 4 rfl rfl (by decide) (L' := [(2, .int (zI 0)), (1, .int (zI 0)), (0, .ref b)]) rfl ?_
  refine V_L (L' := [(2, .int (zI 0)), (1, .int (zI (sumZ (fun j => bz (¬ co 4 j = 0)) 0))), (0, .ref b)]) (LC rfl (LC (vz (by rfl)) (LC rfl rfl))) ?_
  refine up_loop ((co 0 0).toNat) (P := fun (i : Nat) => V p l e (rmL 2 0 0) s m args below meth cd Q 3 s.heap [] 0 0 4 [(2, .int (zI (i : Int))), (1, .int (zI (sumZ (fun j => bz (¬ co 4 j = 0)) i))), (0, .ref b)] []) (fun i hi_i ih_i => ?_)
  refine v_iload_n X dX0_countGuilty_4 5 rfl 0 rfl ?_
  refine v_aload_n X dX0_countGuilty_5 6 rfl 2 rfl ?_
  refine v_getf X hC h_co inX0 0 rfl rfl 0 (by decide) kf_X0_9 (fun _ h => h) rfl dX0_countGuilty_6 9 rfl ?_
  show V p l e (rmL 2 0 0) s m args below meth cd Q 3 s.heap [] 0 0 9 [(2, .int (zI (i : Int))), (1, .int (zI (sumZ (fun j => bz (¬ co 4 j = 0)) i))), (0, .ref b)] [.int (zI (co 0 0)), .int (zI (i : Int))]
  have hb_2 := hO.b0
  refine v_icmp_ge X (by omega) (by omega) dX0_countGuilty_9 12 29 rfl (by decide) (fun c_1 => ?_) (fun c_1 => ?_)
  · skip
    refine v_iload_n X dX0_countGuilty_29 30 rfl 1 rfl ?_
    subst hQ; exact v_iret0 X hr hlk dX0_countGuilty_30 (by rw [show i = (co 0 0).toNat by omega])
  · skip
    refine v_aload_n X dX0_countGuilty_12 13 rfl 2 rfl ?_
    refine v_iload_n X dX0_countGuilty_13 14 rfl 0 rfl ?_
    refine v_rdV X hC h_co (c_X0_isFoundGuilty l E b co (i : Int) hO (by omega) (by omega)) kvX0_isFoundGuilty kiX0_isFoundGuilty kl_X0_209 rfl rfl (As := [.int (zI (i : Int))]) rfl rfl rfl dX0_countGuilty_14 17 rfl ?_
    show V p l e (rmL 2 0 0) s m args below meth cd Q 3 s.heap [] 0 0 17 [(2, .int (zI (i : Int))), (1, .int (zI (sumZ (fun j => bz (¬ co 4 j = 0)) i))), (0, .ref b)] [.int (zI (bz (¬ co 4 (i : Int) = 0)))]
    refine v_bif_eq X dX0_countGuilty_17 20 23 rfl (by decide) (fun c_3 => ?_) (fun c_3 => ?_)
    · skip
      refine v_iinc X dX0_countGuilty_23 26 rfl 0 rfl (by decide) (L' := [(2, .int (zI ((i : Int) + 1))), (1, .int (zI (sumZ (fun j => bz (¬ co 4 j = 0)) i))), (0, .ref b)]) rfl ?_
      refine v_goto X dX0_countGuilty_26 4 (by decide) ?_
      exact V_L (L' := [(2, .int (zI ((i + 1 : Nat) : Int))), (1, .int (zI (sumZ (fun j => bz (¬ co 4 j = 0)) (i + 1)))), (0, .ref b)]) (LC (vz (by omega)) (LC (vz (by first | rw [sumZ_s, bz_t (φ := ¬ co 4 (i : Int) = 0) (by first | assumption | omega)] | (rw [sumZ_s, bz_f (φ := ¬ co 4 (i : Int) = 0) (by first | assumption | omega)]; omega))) (LC rfl rfl))) (ih_i (by omega))
    · skip
      refine v_iinc X dX0_countGuilty_20 23 rfl 1 rfl (by decide) (L' := [(1, .int (zI (sumZ (fun j => bz (¬ co 4 j = 0)) i + 1))), (2, .int (zI (i : Int))), (0, .ref b)]) rfl ?_
      refine v_iinc X dX0_countGuilty_23 26 rfl 1 rfl (by decide) (L' := [(2, .int (zI ((i : Int) + 1))), (1, .int (zI (sumZ (fun j => bz (¬ co 4 j = 0)) i + 1))), (0, .ref b)]) rfl ?_
      refine v_goto X dX0_countGuilty_26 4 (by decide) ?_
      exact V_L (L' := [(2, .int (zI ((i + 1 : Nat) : Int))), (1, .int (zI (sumZ (fun j => bz (¬ co 4 j = 0)) (i + 1)))), (0, .ref b)]) (LC (vz (by omega)) (LC (vz (by first | rw [sumZ_s, bz_t (φ := ¬ co 4 (i : Int) = 0) (by first | assumption | omega)] | (rw [sumZ_s, bz_f (φ := ¬ co 4 (i : Int) = 0) (by first | assumption | omega)]; omega))) (LC rfl rfl))) (ih_i (by omega))
set_option maxHeartbeats 4000000 in
set_option maxRecDepth 20000 in
theorem c_X0_casesHearing (l : Launch) (E : Nat → Nat → Nat) (b : Nat) (co : Nat → Int → Int) (w : Int) (hO : OkC co) (w0 : 0 ≤ w) (w1 : w < 8) : Rd l yX0_casesHearing cX0_casesHearing 4 (some .int) 2 E [.ref b, .int (zI w)] (courtW E b co) (some (.int (zI (sumZ (fun j => bz (0 < co 9 (j * 8 + w))) (co 0 0).toNat)))) := by
  refine Rd.start (own := RX0) rfl (by decide +kernel) (Nat.le_of_ble_eq_true rfl) ?_
  intro p e s m below meth cd args Q hQ X hr hlk hC hP
  have h_co := hP
  refine v_iconst X dX0_casesHearing_0 1 rfl ?_
  refine v_istore_n X dX0_casesHearing_1 2 rfl rfl (by decide) (L' := [(2, .int (zI 0)), (0, .ref b), (1, .int (zI w))]) rfl ?_
  refine v_iconst X dX0_casesHearing_2 3 rfl ?_
  refine v_istore_n X dX0_casesHearing_3 4 rfl rfl (by decide) (L' := [(3, .int (zI 0)), (2, .int (zI 0)), (0, .ref b), (1, .int (zI w))]) rfl ?_
  refine V_L (L' := [(3, .int (zI 0)), (2, .int (zI (sumZ (fun j => bz (0 < co 9 (j * 8 + w))) 0))), (0, .ref b), (1, .int (zI w))]) (LC rfl (LC (vz (by rfl)) (LC rfl (LC rfl rfl)))) ?_
  refine up_loop ((co 0 0).toNat) (P := fun (i : Nat) => V p l e (rmL 2 0 0) s m args below meth cd Q 4 s.heap [] 0 0 4 [(3, .int (zI (i : Int))), (2, .int (zI (sumZ (fun j => bz (0 < co 9 (j * 8 + w))) i))), (0, .ref b), (1, .int (zI w))] []) (fun i hi_i ih_i => ?_)
  refine v_iload_n X dX0_casesHearing_4 5 rfl 0 rfl ?_
  refine v_aload_n X dX0_casesHearing_5 6 rfl 2 rfl ?_
  refine v_getf X hC h_co inX0 0 rfl rfl 0 (by decide) kf_X0_9 (fun _ h => h) rfl dX0_casesHearing_6 9 rfl ?_
  show V p l e (rmL 2 0 0) s m args below meth cd Q 4 s.heap [] 0 0 9 [(3, .int (zI (i : Int))), (2, .int (zI (sumZ (fun j => bz (0 < co 9 (j * 8 + w))) i))), (0, .ref b), (1, .int (zI w))] [.int (zI (co 0 0)), .int (zI (i : Int))]
  have hb_2 := hO.b0
  refine v_icmp_ge X (by omega) (by omega) dX0_casesHearing_9 12 30 rfl (by decide) (fun c_1 => ?_) (fun c_1 => ?_)
  · skip
    refine v_iload_n X dX0_casesHearing_30 31 rfl 1 rfl ?_
    subst hQ; exact v_iret0 X hr hlk dX0_casesHearing_31 (by rw [show i = (co 0 0).toNat by omega])
  · skip
    refine v_aload_n X dX0_casesHearing_12 13 rfl 2 rfl ?_
    refine v_iload_n X dX0_casesHearing_13 14 rfl 0 rfl ?_
    refine v_iload_n X dX0_casesHearing_14 15 rfl 3 rfl ?_
    refine v_rdV X hC h_co (c_X0_hasHeard l E b co (i : Int) w hO (by omega) (by omega) w0 w1) kvX0_hasHeard kiX0_hasHeard kl_X0_164 rfl rfl (As := [.int (zI (i : Int)), .int (zI w)]) rfl rfl rfl dX0_casesHearing_15 18 rfl ?_
    show V p l e (rmL 2 0 0) s m args below meth cd Q 4 s.heap [] 0 0 18 [(3, .int (zI (i : Int))), (2, .int (zI (sumZ (fun j => bz (0 < co 9 (j * 8 + w))) i))), (0, .ref b), (1, .int (zI w))] [.int (zI (bz (0 < co 9 ((i : Int) * 8 + w))))]
    refine v_bif_eq X dX0_casesHearing_18 21 24 rfl (by decide) (fun c_3 => ?_) (fun c_3 => ?_)
    · skip
      refine v_iinc X dX0_casesHearing_24 27 rfl 0 rfl (by decide) (L' := [(3, .int (zI ((i : Int) + 1))), (2, .int (zI (sumZ (fun j => bz (0 < co 9 (j * 8 + w))) i))), (0, .ref b), (1, .int (zI w))]) rfl ?_
      refine v_goto X dX0_casesHearing_27 4 (by decide) ?_
      exact V_L (L' := [(3, .int (zI ((i + 1 : Nat) : Int))), (2, .int (zI (sumZ (fun j => bz (0 < co 9 (j * 8 + w))) (i + 1)))), (0, .ref b), (1, .int (zI w))]) (LC (vz (by omega)) (LC (vz (by first | rw [sumZ_s, bz_t (φ := 0 < co 9 ((i : Int) * 8 + w)) (by first | assumption | omega)] | (rw [sumZ_s, bz_f (φ := 0 < co 9 ((i : Int) * 8 + w)) (by first | assumption | omega)]; omega))) (LC rfl (LC rfl rfl)))) (ih_i (by omega))
    · skip
      refine v_iinc X dX0_casesHearing_21 24 rfl 1 rfl (by decide) (L' := [(2, .int (zI (sumZ (fun j => bz (0 < co 9 (j * 8 + w))) i + 1))), (3, .int (zI (i : Int))), (0, .ref b), (1, .int (zI w))]) rfl ?_
      refine v_iinc X dX0_casesHearing_24 27 rfl 1 rfl (by decide) (L' := [(3, .int (zI ((i : Int) + 1))), (2, .int (zI (sumZ (fun j => bz (0 < co 9 (j * 8 + w))) i + 1))), (0, .ref b), (1, .int (zI w))]) rfl ?_
      refine v_goto X dX0_casesHearing_27 4 (by decide) ?_
      exact V_L (L' := [(3, .int (zI ((i + 1 : Nat) : Int))), (2, .int (zI (sumZ (fun j => bz (0 < co 9 (j * 8 + w))) (i + 1)))), (0, .ref b), (1, .int (zI w))]) (LC (vz (by omega)) (LC (vz (by first | rw [sumZ_s, bz_t (φ := 0 < co 9 ((i : Int) * 8 + w)) (by first | assumption | omega)] | (rw [sumZ_s, bz_f (φ := 0 < co 9 ((i : Int) * 8 + w)) (by first | assumption | omega)]; omega))) (LC rfl (LC rfl rfl)))) (ih_i (by omega))
/-! what the class's sums and orders are -/
theorem sgn_b {a b B : Int} (h0 : -1 ≤ a) (h1 : a ≤ 1) (h2 : 0 ≤ b) (h3 : b ≤ B) : -B ≤ a * b ∧ a * b ≤ B := by
  rcases (show a = -1 ∨ a = 0 ∨ a = 1 by omega) with e | e | e <;> subst e <;> omega
abbrev cbC (co : Nat → Int → Int) (x y : Int) : Prop := co 2 y < co 2 x ∨ (co 2 x = co 2 y ∧ (co 6 y < co 6 x ∨ (co 6 x = co 6 y ∧ x < y)))
def chC (co : Nat → Int → Int) (w : Int) : Int := sumZ (fun j => bz (0 < co 9 (j * 8 + w))) (co 0 0).toNat
abbrev mcC (co : Nat → Int → Int) (x y : Int) : Prop := co 11 y < co 11 x ∨ (co 11 x = co 11 y ∧ (chC co y < chC co x ∨ (chC co x = chC co y ∧ x < y)))
def rkC (co : Nat → Int → Int) (w : Int) : Int := sumZ (fun j => bz (mcC co j w)) (co 0 1).toNat
def wtC (co : Nat → Int → Int) (k j : Int) : Int := co 9 (k * 8 + co 7 (k * 6 + j)) * co 11 (co 7 (k * 6 + j))
def sdC (co : Nat → Int → Int) (k j : Int) : Int := co 8 (k * 8 + co 7 (k * 6 + j))
def mgC (co : Nat → Int → Int) (k : Int) : Int := (-2) * (co 2 k + 1) + sumZ (fun j => sdC co k j * wtC co k j) (co 6 k).toNat
def sgC (co : Nat → Int → Int) (lv k : Int) : Int := sumZ (fun j => if co 11 (co 7 (k * 6 + j)) = lv then sdC co k j * co 9 (k * 8 + co 7 (k * 6 + j)) else 0) (co 6 k).toNat
def mlC (co : Nat → Int → Int) (k : Int) : Int := (-2) * (co 2 k + 1) + sumZ (fun lv => lv * sgC co lv k) 10
def amx (f : Int → Int) : Nat → Int
  | 0 => 0
  | n + 1 => if f (amx f n) < f (n : Int) then (n : Int) else amx f n
theorem amx_s (f : Int → Int) (n : Nat) : amx f (n + 1) = if f (amx f n) < f (n : Int) then (n : Int) else amx f n := rfl
theorem amx_b (f : Int → Int) : ∀ n : Nat, 0 ≤ amx f n ∧ (amx f n < n ∨ amx f n = 0)
  | 0 => by simp [amx]
  | n + 1 => by
    have := amx_b f n
    unfold amx
    split <;> omega
theorem wtC_b {co : Nat → Int → Int} (hO : OkC co) (k j : Int) : 0 ≤ wtC co k j ∧ wtC co k j ≤ 45 := by
  exact w2_b hO _ _
theorem sdwt_b {co : Nat → Int → Int} (hO : OkC co) (k j : Int) : -45 ≤ sdC co k j * wtC co k j ∧ sdC co k j * wtC co k j ≤ 45 := by
  have h1 := hO.b8 (k * 8 + co 7 (k * 6 + j))
  have h2 := wtC_b hO k j
  exact sgn_b h1.1 h1.2 h2.1 h2.2
theorem mgC_b {co : Nat → Int → Int} (hO : OkC co) (k : Int) : -1000 ≤ mgC co k ∧ mgC co k ≤ 1000 := by
  have h1 := hO.b2 k
  have h2 := hO.b6 k
  have h3 := sumZ_b (f := fun j => sdC co k j * wtC co k j) (lo := -45) (hi := 45) (n := (co 6 k).toNat) (fun j _ _ => sdwt_b hO k j)
  unfold mgC
  omega
theorem sgC_b {co : Nat → Int → Int} (hO : OkC co) (lv k : Int) : -30 ≤ sgC co lv k ∧ sgC co lv k ≤ 30 := by
  have h2 := hO.b6 k
  have h3 := sumZ_b (f := fun j => if co 11 (co 7 (k * 6 + j)) = lv then sdC co k j * co 9 (k * 8 + co 7 (k * 6 + j)) else 0) (lo := -5) (hi := 5) (n := (co 6 k).toNat) (fun j _ _ => by
    have h4 := hO.b8 (k * 8 + co 7 (k * 6 + j))
    have h5 := hO.b9 (k * 8 + co 7 (k * 6 + j))
    have h6 := sgn_b h4.1 h4.2 h5.1 h5.2
    split
    · exact h6
    · omega)
  unfold sgC
  omega
theorem mlC_b {co : Nat → Int → Int} (hO : OkC co) (k : Int) : -5000 ≤ mlC co k ∧ mlC co k ≤ 5000 := by
  have h1 := hO.b2 k
  have h3 := sumZ_b (f := fun lv => lv * sgC co lv k) (lo := -270) (hi := 270) (n := 10) (fun j h0 h1 => by
    have h4 := sgC_b hO j k
    exact mul_b h0 (show j ≤ 9 by omega) h4.1 h4.2 (by decide) (by decide))
  unfold mlC
  omega
theorem chC_b (co : Nat → Int → Int) (w : Int) : 0 ≤ chC co w ∧ chC co w ≤ (co 0 0).toNat := cnt_b (fun j => 0 < co 9 (j * 8 + w)) _
theorem rkC_b (co : Nat → Int → Int) (w : Int) : 0 ≤ rkC co w ∧ rkC co w ≤ (co 0 1).toNat := cnt_b (fun j => mcC co j w) _
set_option maxHeartbeats 4000000 in
set_option maxRecDepth 20000 in
theorem c_X0_comesBefore (l : Launch) (E : Nat → Nat → Nat) (b : Nat) (co : Nat → Int → Int) (x : Int) (y : Int) (hO : OkC co) (x0 : 0 ≤ x) (x1 : x < 16) (y0 : 0 ≤ y) (y1 : y < 16) : Rd l yX0_comesBefore cX0_comesBefore 3 (some .boolean) 1 E [.ref b, .int (zI x), .int (zI y)] (courtW E b co) (some (.int (zI (bz (cbC co x y))))) := by
  refine Rd.start (own := RX0) rfl (by decide +kernel) (Nat.le_of_ble_eq_true rfl) ?_
  intro p e s m below meth cd args Q hQ X hr hlk hC hP
  have h_co := hP
  refine v_aload_n X dX0_comesBefore_0 1 rfl 0 rfl ?_
  refine v_getf X hC h_co inX0 0 rfl rfl 5 (by decide) kf_X0_33 (fun _ h => h) rfl dX0_comesBefore_1 4 rfl ?_
  refine v_iload_n X dX0_comesBefore_4 5 rfl 1 rfl ?_
  refine v_rdV X hC (PW.part h_co 3 2 (wc := rowW E (b + 3) 16 (co 2)) rfl) (c_X6_get l E (b + 3) 16 (co 2) x x0 x1 (by omega)) kvX6_get kiX6_get kl_X0_157 rfl rfl (As := [.int (zI x)]) rfl rfl rfl dX0_comesBefore_5 8 rfl ?_
  show V p l e (rmL 1 0 0) s m args below meth cd Q 3 s.heap [] 0 0 8 [(0, .ref b), (1, .int (zI x)), (2, .int (zI y))] [.int (zI (co 2 x))]
  have hb_1 := hO.b2 x
  refine v_aload_n X dX0_comesBefore_8 9 rfl 0 rfl ?_
  refine v_getf X hC h_co inX0 0 rfl rfl 5 (by decide) kf_X0_33 (fun _ h => h) rfl dX0_comesBefore_9 12 rfl ?_
  refine v_iload_n X dX0_comesBefore_12 13 rfl 2 rfl ?_
  refine v_rdV X hC (PW.part h_co 3 2 (wc := rowW E (b + 3) 16 (co 2)) rfl) (c_X6_get l E (b + 3) 16 (co 2) y y0 y1 (by omega)) kvX6_get kiX6_get kl_X0_157 rfl rfl (As := [.int (zI y)]) rfl rfl rfl dX0_comesBefore_13 16 rfl ?_
  show V p l e (rmL 1 0 0) s m args below meth cd Q 3 s.heap [] 0 0 16 [(0, .ref b), (1, .int (zI x)), (2, .int (zI y))] [.int (zI (co 2 y)), .int (zI (co 2 x))]
  have hb_2 := hO.b2 y
  refine v_icmp_eq X (by omega) (by omega) dX0_comesBefore_16 19 44 rfl (by decide) (fun c_3 => ?_) (fun c_3 => ?_)
  · skip
    refine v_aload_n X dX0_comesBefore_44 45 rfl 0 rfl ?_
    refine v_getf X hC h_co inX0 0 rfl rfl 9 (by decide) kf_X0_45 (fun _ h => h) rfl dX0_comesBefore_45 48 rfl ?_
    refine v_iload_n X dX0_comesBefore_48 49 rfl 1 rfl ?_
    refine v_rdV X hC (PW.part h_co 11 2 (wc := rowW E (b + 11) 16 (co 6)) rfl) (c_X6_get l E (b + 11) 16 (co 6) x x0 x1 (by omega)) kvX6_get kiX6_get kl_X0_157 rfl rfl (As := [.int (zI x)]) rfl rfl rfl dX0_comesBefore_49 52 rfl ?_
    show V p l e (rmL 1 0 0) s m args below meth cd Q 3 s.heap [] 0 0 52 [(0, .ref b), (1, .int (zI x)), (2, .int (zI y))] [.int (zI (co 6 x))]
    have hb_4 := hO.b6 x
    refine v_aload_n X dX0_comesBefore_52 53 rfl 0 rfl ?_
    refine v_getf X hC h_co inX0 0 rfl rfl 9 (by decide) kf_X0_45 (fun _ h => h) rfl dX0_comesBefore_53 56 rfl ?_
    refine v_iload_n X dX0_comesBefore_56 57 rfl 2 rfl ?_
    refine v_rdV X hC (PW.part h_co 11 2 (wc := rowW E (b + 11) 16 (co 6)) rfl) (c_X6_get l E (b + 11) 16 (co 6) y y0 y1 (by omega)) kvX6_get kiX6_get kl_X0_157 rfl rfl (As := [.int (zI y)]) rfl rfl rfl dX0_comesBefore_57 60 rfl ?_
    show V p l e (rmL 1 0 0) s m args below meth cd Q 3 s.heap [] 0 0 60 [(0, .ref b), (1, .int (zI x)), (2, .int (zI y))] [.int (zI (co 6 y)), .int (zI (co 6 x))]
    have hb_5 := hO.b6 y
    refine v_icmp_eq X (by omega) (by omega) dX0_comesBefore_60 63 88 rfl (by decide) (fun c_6 => ?_) (fun c_6 => ?_)
    · skip
      refine v_iload_n X dX0_comesBefore_88 89 rfl 1 rfl ?_
      refine v_iload_n X dX0_comesBefore_89 90 rfl 2 rfl ?_
      refine v_icmp_ge X (by omega) (by omega) dX0_comesBefore_90 93 97 rfl (by decide) (fun c_7 => ?_) (fun c_7 => ?_)
      · skip
        refine v_iconst X dX0_comesBefore_97 98 rfl ?_
        subst hQ; exact v_zret0 X hr hlk dX0_comesBefore_98 (bz_f (by omega))
      · skip
        refine v_iconst X dX0_comesBefore_93 94 rfl ?_
        refine v_goto X dX0_comesBefore_94 98 (by decide) ?_
        subst hQ; exact v_zret0 X hr hlk dX0_comesBefore_98 (bz_t (by omega))
    · skip
      refine v_aload_n X dX0_comesBefore_63 64 rfl 0 rfl ?_
      refine v_getf X hC h_co inX0 0 rfl rfl 9 (by decide) kf_X0_45 (fun _ h => h) rfl dX0_comesBefore_64 67 rfl ?_
      refine v_iload_n X dX0_comesBefore_67 68 rfl 1 rfl ?_
      refine v_rdV X hC (PW.part h_co 11 2 (wc := rowW E (b + 11) 16 (co 6)) rfl) (c_X6_get l E (b + 11) 16 (co 6) x x0 x1 (by omega)) kvX6_get kiX6_get kl_X0_157 rfl rfl (As := [.int (zI x)]) rfl rfl rfl dX0_comesBefore_68 71 rfl ?_
      show V p l e (rmL 1 0 0) s m args below meth cd Q 3 s.heap [] 0 0 71 [(0, .ref b), (1, .int (zI x)), (2, .int (zI y))] [.int (zI (co 6 x))]
      refine v_aload_n X dX0_comesBefore_71 72 rfl 0 rfl ?_
      refine v_getf X hC h_co inX0 0 rfl rfl 9 (by decide) kf_X0_45 (fun _ h => h) rfl dX0_comesBefore_72 75 rfl ?_
      refine v_iload_n X dX0_comesBefore_75 76 rfl 2 rfl ?_
      refine v_rdV X hC (PW.part h_co 11 2 (wc := rowW E (b + 11) 16 (co 6)) rfl) (c_X6_get l E (b + 11) 16 (co 6) y y0 y1 (by omega)) kvX6_get kiX6_get kl_X0_157 rfl rfl (As := [.int (zI y)]) rfl rfl rfl dX0_comesBefore_76 79 rfl ?_
      show V p l e (rmL 1 0 0) s m args below meth cd Q 3 s.heap [] 0 0 79 [(0, .ref b), (1, .int (zI x)), (2, .int (zI y))] [.int (zI (co 6 y)), .int (zI (co 6 x))]
      refine v_icmp_le X (by omega) (by omega) dX0_comesBefore_79 82 86 rfl (by decide) (fun c_8 => ?_) (fun c_8 => ?_)
      · skip
        refine v_iconst X dX0_comesBefore_86 87 rfl ?_
        subst hQ; exact v_zret0 X hr hlk dX0_comesBefore_87 (bz_f (by omega))
      · skip
        refine v_iconst X dX0_comesBefore_82 83 rfl ?_
        refine v_goto X dX0_comesBefore_83 87 (by decide) ?_
        subst hQ; exact v_zret0 X hr hlk dX0_comesBefore_87 (bz_t (by omega))
  · skip
    refine v_aload_n X dX0_comesBefore_19 20 rfl 0 rfl ?_
    refine v_getf X hC h_co inX0 0 rfl rfl 5 (by decide) kf_X0_33 (fun _ h => h) rfl dX0_comesBefore_20 23 rfl ?_
    refine v_iload_n X dX0_comesBefore_23 24 rfl 1 rfl ?_
    refine v_rdV X hC (PW.part h_co 3 2 (wc := rowW E (b + 3) 16 (co 2)) rfl) (c_X6_get l E (b + 3) 16 (co 2) x x0 x1 (by omega)) kvX6_get kiX6_get kl_X0_157 rfl rfl (As := [.int (zI x)]) rfl rfl rfl dX0_comesBefore_24 27 rfl ?_
    show V p l e (rmL 1 0 0) s m args below meth cd Q 3 s.heap [] 0 0 27 [(0, .ref b), (1, .int (zI x)), (2, .int (zI y))] [.int (zI (co 2 x))]
    refine v_aload_n X dX0_comesBefore_27 28 rfl 0 rfl ?_
    refine v_getf X hC h_co inX0 0 rfl rfl 5 (by decide) kf_X0_33 (fun _ h => h) rfl dX0_comesBefore_28 31 rfl ?_
    refine v_iload_n X dX0_comesBefore_31 32 rfl 2 rfl ?_
    refine v_rdV X hC (PW.part h_co 3 2 (wc := rowW E (b + 3) 16 (co 2)) rfl) (c_X6_get l E (b + 3) 16 (co 2) y y0 y1 (by omega)) kvX6_get kiX6_get kl_X0_157 rfl rfl (As := [.int (zI y)]) rfl rfl rfl dX0_comesBefore_32 35 rfl ?_
    show V p l e (rmL 1 0 0) s m args below meth cd Q 3 s.heap [] 0 0 35 [(0, .ref b), (1, .int (zI x)), (2, .int (zI y))] [.int (zI (co 2 y)), .int (zI (co 2 x))]
    refine v_icmp_le X (by omega) (by omega) dX0_comesBefore_35 38 42 rfl (by decide) (fun c_9 => ?_) (fun c_9 => ?_)
    · skip
      refine v_iconst X dX0_comesBefore_42 43 rfl ?_
      subst hQ; exact v_zret0 X hr hlk dX0_comesBefore_43 (bz_f (by omega))
    · skip
      refine v_iconst X dX0_comesBefore_38 39 rfl ?_
      refine v_goto X dX0_comesBefore_39 43 (by decide) ?_
      subst hQ; exact v_zret0 X hr hlk dX0_comesBefore_43 (bz_t (by omega))
theorem c_X0_casesHearingN (l : Launch) (E : Nat → Nat → Nat) (b : Nat) (co : Nat → Int → Int) (w : Int) (hO : OkC co) (w0 : 0 ≤ w) (w1 : w < 8) : Rd l yX0_casesHearing cX0_casesHearing 4 (some .int) 2 E [.ref b, .int (zI w)] (courtW E b co) (some (.int (zI (chC co w)))) := c_X0_casesHearing l E b co w hO w0 w1
set_option maxHeartbeats 4000000 in
set_option maxRecDepth 20000 in
theorem c_X0_isMoreCredible (l : Launch) (E : Nat → Nat → Nat) (b : Nat) (co : Nat → Int → Int) (x : Int) (y : Int) (hO : OkC co) (x0 : 0 ≤ x) (x1 : x < 8) (y0 : 0 ≤ y) (y1 : y < 8) : Rd l yX0_isMoreCredible cX0_isMoreCredible 5 (some .boolean) 3 E [.ref b, .int (zI x), .int (zI y)] (courtW E b co) (some (.int (zI (bz (mcC co x y))))) := by
  refine Rd.start (own := RX0) rfl (by decide +kernel) (Nat.le_of_ble_eq_true rfl) ?_
  intro p e s m below meth cd args Q hQ X hr hlk hC hP
  have h_co := hP
  refine v_aload_n X dX0_isMoreCredible_0 1 rfl 0 rfl ?_
  refine v_getf X hC h_co inX0 0 rfl rfl 14 (by decide) kf_X0_60 (fun _ h => h) rfl dX0_isMoreCredible_1 4 rfl ?_
  refine v_iload_n X dX0_isMoreCredible_4 5 rfl 1 rfl ?_
  refine v_rdV X hC (PW.part h_co 21 2 (wc := rowW E (b + 21) 8 (co 11)) rfl) (c_X6_get l E (b + 21) 8 (co 11) x x0 x1 (by omega)) kvX6_get kiX6_get kl_X0_157 rfl rfl (As := [.int (zI x)]) rfl rfl rfl dX0_isMoreCredible_5 8 rfl ?_
  show V p l e (rmL 3 0 0) s m args below meth cd Q 5 s.heap [] 0 0 8 [(0, .ref b), (1, .int (zI x)), (2, .int (zI y))] [.int (zI (co 11 x))]
  have hb_1 := hO.b11 x
  refine v_aload_n X dX0_isMoreCredible_8 9 rfl 0 rfl ?_
  refine v_getf X hC h_co inX0 0 rfl rfl 14 (by decide) kf_X0_60 (fun _ h => h) rfl dX0_isMoreCredible_9 12 rfl ?_
  refine v_iload_n X dX0_isMoreCredible_12 13 rfl 2 rfl ?_
  refine v_rdV X hC (PW.part h_co 21 2 (wc := rowW E (b + 21) 8 (co 11)) rfl) (c_X6_get l E (b + 21) 8 (co 11) y y0 y1 (by omega)) kvX6_get kiX6_get kl_X0_157 rfl rfl (As := [.int (zI y)]) rfl rfl rfl dX0_isMoreCredible_13 16 rfl ?_
  show V p l e (rmL 3 0 0) s m args below meth cd Q 5 s.heap [] 0 0 16 [(0, .ref b), (1, .int (zI x)), (2, .int (zI y))] [.int (zI (co 11 y)), .int (zI (co 11 x))]
  have hb_2 := hO.b11 y
  refine v_icmp_eq X (by omega) (by omega) dX0_isMoreCredible_16 19 44 rfl (by decide) (fun c_3 => ?_) (fun c_3 => ?_)
  · skip
    refine v_aload_n X dX0_isMoreCredible_44 45 rfl 0 rfl ?_
    refine v_iload_n X dX0_isMoreCredible_45 46 rfl 1 rfl ?_
    refine v_rdV X hC h_co (c_X0_casesHearingN l E b co x hO x0 x1) kvX0_casesHearing kiX0_casesHearing kl_X0_224 rfl rfl (As := [.int (zI x)]) rfl rfl rfl dX0_isMoreCredible_46 49 rfl ?_
    show V p l e (rmL 3 0 0) s m args below meth cd Q 5 s.heap [] 0 0 49 [(0, .ref b), (1, .int (zI x)), (2, .int (zI y))] [.int (zI (chC co x))]
    have hf_4 := chC_b co x
    have hf_5 := hO.b0
    refine v_istore_n X dX0_isMoreCredible_49 50 rfl rfl (by decide) (L' := [(3, .int (zI (chC co x))), (0, .ref b), (1, .int (zI x)), (2, .int (zI y))]) rfl ?_
    refine v_aload_n X dX0_isMoreCredible_50 51 rfl 1 rfl ?_
    refine v_iload_n X dX0_isMoreCredible_51 52 rfl 3 rfl ?_
    refine v_rdV X hC h_co (c_X0_casesHearingN l E b co y hO y0 y1) kvX0_casesHearing kiX0_casesHearing kl_X0_224 rfl rfl (As := [.int (zI y)]) rfl rfl rfl dX0_isMoreCredible_52 55 rfl ?_
    show V p l e (rmL 3 0 0) s m args below meth cd Q 5 s.heap [] 0 0 55 [(3, .int (zI (chC co x))), (0, .ref b), (1, .int (zI x)), (2, .int (zI y))] [.int (zI (chC co y))]
    have hf_6 := chC_b co y
    have hf_7 := hO.b0
    refine v_istore X dX0_isMoreCredible_55 57 rfl (by decide) (L' := [(4, .int (zI (chC co y))), (3, .int (zI (chC co x))), (0, .ref b), (1, .int (zI x)), (2, .int (zI y))]) rfl ?_
    refine v_iload_n X dX0_isMoreCredible_57 58 rfl 1 rfl ?_
    refine v_iload X dX0_isMoreCredible_58 60 rfl 0 rfl ?_
    refine v_icmp_eq X (by omega) (by omega) dX0_isMoreCredible_60 63 77 rfl (by decide) (fun c_8 => ?_) (fun c_8 => ?_)
    · skip
      refine v_iload_n X dX0_isMoreCredible_77 78 rfl 3 rfl ?_
      refine v_iload_n X dX0_isMoreCredible_78 79 rfl 4 rfl ?_
      refine v_icmp_ge X (by omega) (by omega) dX0_isMoreCredible_79 82 86 rfl (by decide) (fun c_9 => ?_) (fun c_9 => ?_)
      · skip
        refine v_iconst X dX0_isMoreCredible_86 87 rfl ?_
        subst hQ; exact v_zret0 X hr hlk dX0_isMoreCredible_87 (bz_f (by omega))
      · skip
        refine v_iconst X dX0_isMoreCredible_82 83 rfl ?_
        refine v_goto X dX0_isMoreCredible_83 87 (by decide) ?_
        subst hQ; exact v_zret0 X hr hlk dX0_isMoreCredible_87 (bz_t (by omega))
    · skip
      refine v_iload_n X dX0_isMoreCredible_63 64 rfl 1 rfl ?_
      refine v_iload X dX0_isMoreCredible_64 66 rfl 0 rfl ?_
      refine v_icmp_le X (by omega) (by omega) dX0_isMoreCredible_66 69 73 rfl (by decide) (fun c_10 => ?_) (fun c_10 => ?_)
      · skip
        refine v_iconst X dX0_isMoreCredible_73 74 rfl ?_
        refine v_goto X dX0_isMoreCredible_74 87 (by decide) ?_
        subst hQ; exact v_zret0 X hr hlk dX0_isMoreCredible_87 (bz_f (by omega))
      · skip
        refine v_iconst X dX0_isMoreCredible_69 70 rfl ?_
        refine v_goto X dX0_isMoreCredible_70 87 (by decide) ?_
        subst hQ; exact v_zret0 X hr hlk dX0_isMoreCredible_87 (bz_t (by omega))
  · skip
    refine v_aload_n X dX0_isMoreCredible_19 20 rfl 0 rfl ?_
    refine v_getf X hC h_co inX0 0 rfl rfl 14 (by decide) kf_X0_60 (fun _ h => h) rfl dX0_isMoreCredible_20 23 rfl ?_
    refine v_iload_n X dX0_isMoreCredible_23 24 rfl 1 rfl ?_
    refine v_rdV X hC (PW.part h_co 21 2 (wc := rowW E (b + 21) 8 (co 11)) rfl) (c_X6_get l E (b + 21) 8 (co 11) x x0 x1 (by omega)) kvX6_get kiX6_get kl_X0_157 rfl rfl (As := [.int (zI x)]) rfl rfl rfl dX0_isMoreCredible_24 27 rfl ?_
    show V p l e (rmL 3 0 0) s m args below meth cd Q 5 s.heap [] 0 0 27 [(0, .ref b), (1, .int (zI x)), (2, .int (zI y))] [.int (zI (co 11 x))]
    refine v_aload_n X dX0_isMoreCredible_27 28 rfl 0 rfl ?_
    refine v_getf X hC h_co inX0 0 rfl rfl 14 (by decide) kf_X0_60 (fun _ h => h) rfl dX0_isMoreCredible_28 31 rfl ?_
    refine v_iload_n X dX0_isMoreCredible_31 32 rfl 2 rfl ?_
    refine v_rdV X hC (PW.part h_co 21 2 (wc := rowW E (b + 21) 8 (co 11)) rfl) (c_X6_get l E (b + 21) 8 (co 11) y y0 y1 (by omega)) kvX6_get kiX6_get kl_X0_157 rfl rfl (As := [.int (zI y)]) rfl rfl rfl dX0_isMoreCredible_32 35 rfl ?_
    show V p l e (rmL 3 0 0) s m args below meth cd Q 5 s.heap [] 0 0 35 [(0, .ref b), (1, .int (zI x)), (2, .int (zI y))] [.int (zI (co 11 y)), .int (zI (co 11 x))]
    refine v_icmp_le X (by omega) (by omega) dX0_isMoreCredible_35 38 42 rfl (by decide) (fun c_11 => ?_) (fun c_11 => ?_)
    · skip
      refine v_iconst X dX0_isMoreCredible_42 43 rfl ?_
      subst hQ; exact v_zret0 X hr hlk dX0_isMoreCredible_43 (bz_f (by omega))
    · skip
      refine v_iconst X dX0_isMoreCredible_38 39 rfl ?_
      refine v_goto X dX0_isMoreCredible_39 43 (by decide) ?_
      subst hQ; exact v_zret0 X hr hlk dX0_isMoreCredible_43 (bz_t (by omega))
set_option maxHeartbeats 4000000 in
set_option maxRecDepth 20000 in
theorem c_X0_agreementOf (l : Launch) (E : Nat → Nat → Nat) (b : Nat) (co : Nat → Int → Int) (x : Int) (y : Int) (hO : OkC co) (x0 : 0 ≤ x) (x1 : x < 8) (y0 : 0 ≤ y) (y1 : y < 8) : Rd l yX0_agreementOf cX0_agreementOf 5 (some .int) 2 E [.ref b, .int (zI x), .int (zI y)] (courtW E b co) (some (.int (zI (sumZ (fun j => co 8 (j * 8 + x) * co 8 (j * 8 + y)) (co 0 0).toNat)))) := by
  refine Rd.start (own := RX0) rfl (by decide +kernel) (Nat.le_of_ble_eq_true rfl) ?_
  intro p e s m below meth cd args Q hQ X hr hlk hC hP
  have h_co := hP
  refine v_iconst X dX0_agreementOf_0 1 rfl ?_
  refine v_istore_n X dX0_agreementOf_1 2 rfl rfl (by decide) (L' := [(3, .int (zI 0)), (0, .ref b), (1, .int (zI x)), (2, .int (zI y))]) rfl ?_
  refine v_iconst X dX0_agreementOf_2 3 rfl ?_
  refine v_istore X dX0_agreementOf_3 5 rfl (by decide) (L' := [(4, .int (zI 0)), (3, .int (zI 0)), (0, .ref b), (1, .int (zI x)), (2, .int (zI y))]) rfl ?_
  refine V_L (L' := [(4, .int (zI 0)), (3, .int (zI (sumZ (fun j => co 8 (j * 8 + x) * co 8 (j * 8 + y)) 0))), (0, .ref b), (1, .int (zI x)), (2, .int (zI y))]) (LC rfl (LC (vz (by rfl)) (LC rfl (LC rfl (LC rfl rfl))))) ?_
  refine up_loop ((co 0 0).toNat) (P := fun (i : Nat) => V p l e (rmL 2 0 0) s m args below meth cd Q 5 s.heap [] 0 0 5 [(4, .int (zI (i : Int))), (3, .int (zI (sumZ (fun j => co 8 (j * 8 + x) * co 8 (j * 8 + y)) i))), (0, .ref b), (1, .int (zI x)), (2, .int (zI y))] []) (fun i hi_i ih_i => ?_)
  refine v_iload X dX0_agreementOf_5 7 rfl 0 rfl ?_
  refine v_aload_n X dX0_agreementOf_7 8 rfl 2 rfl ?_
  refine v_getf X hC h_co inX0 0 rfl rfl 0 (by decide) kf_X0_9 (fun _ h => h) rfl dX0_agreementOf_8 11 rfl ?_
  show V p l e (rmL 2 0 0) s m args below meth cd Q 5 s.heap [] 0 0 11 [(4, .int (zI (i : Int))), (3, .int (zI (sumZ (fun j => co 8 (j * 8 + x) * co 8 (j * 8 + y)) i))), (0, .ref b), (1, .int (zI x)), (2, .int (zI y))] [.int (zI (co 0 0)), .int (zI (i : Int))]
  have hb_2 := hO.b0
  refine v_icmp_ge X (by omega) (by omega) dX0_agreementOf_11 14 38 rfl (by decide) (fun c_1 => ?_) (fun c_1 => ?_)
  · skip
    refine v_iload_n X dX0_agreementOf_38 39 rfl 1 rfl ?_
    subst hQ; exact v_iret0 X hr hlk dX0_agreementOf_39 (by rw [show i = (co 0 0).toNat by omega])
  · skip
    refine v_iload_n X dX0_agreementOf_14 15 rfl 1 rfl ?_
    refine v_aload_n X dX0_agreementOf_15 16 rfl 2 rfl ?_
    refine v_iload X dX0_agreementOf_16 18 rfl 0 rfl ?_
    refine v_iload_n X dX0_agreementOf_18 19 rfl 3 rfl ?_
    refine v_rdV X hC h_co (c_X0_sideOf l E b co (i : Int) x (by omega) (by omega) x0 x1) kvX0_sideOf kiX0_sideOf kl_X0_215 rfl rfl (As := [.int (zI (i : Int)), .int (zI x)]) rfl rfl rfl dX0_agreementOf_19 22 rfl ?_
    show V p l e (rmL 2 0 0) s m args below meth cd Q 5 s.heap [] 0 0 22 [(4, .int (zI (i : Int))), (3, .int (zI (sumZ (fun j => co 8 (j * 8 + x) * co 8 (j * 8 + y)) i))), (0, .ref b), (1, .int (zI x)), (2, .int (zI y))] [.int (zI (co 8 ((i : Int) * 8 + x))), .int (zI (sumZ (fun j => co 8 (j * 8 + x) * co 8 (j * 8 + y)) i))]
    have hb_3 := hO.b8 ((i : Int) * 8 + x)
    refine v_aload_n X dX0_agreementOf_22 23 rfl 2 rfl ?_
    refine v_iload X dX0_agreementOf_23 25 rfl 0 rfl ?_
    refine v_iload_n X dX0_agreementOf_25 26 rfl 4 rfl ?_
    refine v_rdV X hC h_co (c_X0_sideOf l E b co (i : Int) y (by omega) (by omega) y0 y1) kvX0_sideOf kiX0_sideOf kl_X0_215 rfl rfl (As := [.int (zI (i : Int)), .int (zI y)]) rfl rfl rfl dX0_agreementOf_26 29 rfl ?_
    show V p l e (rmL 2 0 0) s m args below meth cd Q 5 s.heap [] 0 0 29 [(4, .int (zI (i : Int))), (3, .int (zI (sumZ (fun j => co 8 (j * 8 + x) * co 8 (j * 8 + y)) i))), (0, .ref b), (1, .int (zI x)), (2, .int (zI y))] [.int (zI (co 8 ((i : Int) * 8 + y))), .int (zI (co 8 ((i : Int) * 8 + x))), .int (zI (sumZ (fun j => co 8 (j * 8 + x) * co 8 (j * 8 + y)) i))]
    have hb_4 := hO.b8 ((i : Int) * 8 + y)
    refine v_imul X dX0_agreementOf_29 30 rfl ?_
    refine v_iadd X dX0_agreementOf_30 31 rfl ?_
    refine v_istore_n X dX0_agreementOf_31 32 rfl rfl (by decide) (L' := [(3, .int (zI (sumZ (fun j => co 8 (j * 8 + x) * co 8 (j * 8 + y)) i + ((co 8 ((i : Int) * 8 + x)) * (co 8 ((i : Int) * 8 + y)))))), (4, .int (zI (i : Int))), (0, .ref b), (1, .int (zI x)), (2, .int (zI y))]) rfl ?_
    refine v_iinc X dX0_agreementOf_32 35 rfl 1 rfl (by decide) (L' := [(4, .int (zI ((i : Int) + 1))), (3, .int (zI (sumZ (fun j => co 8 (j * 8 + x) * co 8 (j * 8 + y)) i + ((co 8 ((i : Int) * 8 + x)) * (co 8 ((i : Int) * 8 + y)))))), (0, .ref b), (1, .int (zI x)), (2, .int (zI y))]) rfl ?_
    refine v_goto X dX0_agreementOf_35 5 (by decide) ?_
    exact V_L (L' := [(4, .int (zI ((i + 1 : Nat) : Int))), (3, .int (zI (sumZ (fun j => co 8 (j * 8 + x) * co 8 (j * 8 + y)) (i + 1)))), (0, .ref b), (1, .int (zI x)), (2, .int (zI y))]) (LC (vz (by omega)) (LC (vz (by rw [sumZ_s] <;> omega)) (LC rfl (LC rfl (LC rfl rfl))))) (ih_i (by omega))
set_option maxHeartbeats 4000000 in
set_option maxRecDepth 20000 in
theorem c_X0_credibilitySum (l : Launch) (E : Nat → Nat → Nat) (b : Nat) (co : Nat → Int → Int) (hO : OkC co) : Rd l yX0_credibilitySum cX0_credibilitySum 3 (some .int) 1 E [.ref b] (courtW E b co) (some (.int (zI (sumZ (fun j => co 11 j) (co 0 1).toNat)))) := by
  refine Rd.start (own := RX0) rfl (by decide +kernel) (Nat.le_of_ble_eq_true rfl) ?_
  intro p e s m below meth cd args Q hQ X hr hlk hC hP
  have h_co := hP
  refine v_iconst X dX0_credibilitySum_0 1 rfl ?_
  refine v_istore_n X dX0_credibilitySum_1 2 rfl rfl (by decide) (L' := [(1, .int (zI 0)), (0, .ref b)]) rfl ?_
  refine v_iconst X dX0_credibilitySum_2 3 rfl ?_
  refine v_istore_n X dX0_credibilitySum_3 4 rfl rfl (by decide) (L' := [(2, .int (zI 0)), (1, .int (zI 0)), (0, .ref b)]) rfl ?_
  refine V_L (L' := [(2, .int (zI 0)), (1, .int (zI (sumZ (fun j => co 11 j) 0))), (0, .ref b)]) (LC rfl (LC (vz (by rfl)) (LC rfl rfl))) ?_
  refine up_loop ((co 0 1).toNat) (P := fun (i : Nat) => V p l e (rmL 1 0 0) s m args below meth cd Q 3 s.heap [] 0 0 4 [(2, .int (zI (i : Int))), (1, .int (zI (sumZ (fun j => co 11 j) i))), (0, .ref b)] []) (fun i hi_i ih_i => ?_)
  refine v_iload_n X dX0_credibilitySum_4 5 rfl 0 rfl ?_
  refine v_aload_n X dX0_credibilitySum_5 6 rfl 2 rfl ?_
  refine v_getf X hC h_co inX0 0 rfl rfl 1 (by decide) kf_X0_15 (fun _ h => h) rfl dX0_credibilitySum_6 9 rfl ?_
  show V p l e (rmL 1 0 0) s m args below meth cd Q 3 s.heap [] 0 0 9 [(2, .int (zI (i : Int))), (1, .int (zI (sumZ (fun j => co 11 j) i))), (0, .ref b)] [.int (zI (co 0 1)), .int (zI (i : Int))]
  have hb_2 := hO.bw
  refine v_icmp_ge X (by omega) (by omega) dX0_credibilitySum_9 12 29 rfl (by decide) (fun c_1 => ?_) (fun c_1 => ?_)
  · skip
    refine v_iload_n X dX0_credibilitySum_29 30 rfl 1 rfl ?_
    subst hQ; exact v_iret0 X hr hlk dX0_credibilitySum_30 (by rw [show i = (co 0 1).toNat by omega])
  · skip
    refine v_iload_n X dX0_credibilitySum_12 13 rfl 1 rfl ?_
    refine v_aload_n X dX0_credibilitySum_13 14 rfl 2 rfl ?_
    refine v_getf X hC h_co inX0 0 rfl rfl 14 (by decide) kf_X0_60 (fun _ h => h) rfl dX0_credibilitySum_14 17 rfl ?_
    refine v_iload_n X dX0_credibilitySum_17 18 rfl 0 rfl ?_
    refine v_rdV X hC (PW.part h_co 21 2 (wc := rowW E (b + 21) 8 (co 11)) rfl) (c_X6_get l E (b + 21) 8 (co 11) (i : Int) (by omega) (by omega) (by omega)) kvX6_get kiX6_get kl_X0_157 rfl rfl (As := [.int (zI (i : Int))]) rfl rfl rfl dX0_credibilitySum_18 21 rfl ?_
    show V p l e (rmL 1 0 0) s m args below meth cd Q 3 s.heap [] 0 0 21 [(2, .int (zI (i : Int))), (1, .int (zI (sumZ (fun j => co 11 j) i))), (0, .ref b)] [.int (zI (co 11 (i : Int))), .int (zI (sumZ (fun j => co 11 j) i))]
    have hb_3 := hO.b11 (i : Int)
    refine v_iadd X dX0_credibilitySum_21 22 rfl ?_
    refine v_istore_n X dX0_credibilitySum_22 23 rfl rfl (by decide) (L' := [(1, .int (zI (sumZ (fun j => co 11 j) i + co 11 (i : Int)))), (2, .int (zI (i : Int))), (0, .ref b)]) rfl ?_
    refine v_iinc X dX0_credibilitySum_23 26 rfl 1 rfl (by decide) (L' := [(2, .int (zI ((i : Int) + 1))), (1, .int (zI (sumZ (fun j => co 11 j) i + co 11 (i : Int)))), (0, .ref b)]) rfl ?_
    refine v_goto X dX0_credibilitySum_26 4 (by decide) ?_
    exact V_L (L' := [(2, .int (zI ((i + 1 : Nat) : Int))), (1, .int (zI (sumZ (fun j => co 11 j) (i + 1)))), (0, .ref b)]) (LC (vz (by omega)) (LC (vz (by rw [sumZ_s] <;> omega)) (LC rfl rfl))) (ih_i (by omega))
set_option maxHeartbeats 4000000 in
set_option maxRecDepth 20000 in
theorem c_X0_addedSentence (l : Launch) (E : Nat → Nat → Nat) (b : Nat) (co : Nat → Int → Int) (d : Int) (hO : OkC co) (d0 : 0 ≤ d) (d1 : d < 6) : Rd l yX0_addedSentence cX0_addedSentence 4 (some .int) 2 E [.ref b, .int (zI d)] (courtW E b co) (some (.int (zI (sumZ (fun j => if co 1 j = d ∧ ¬ co 4 j = 0 then co 2 j + 1 else 0) (co 0 0).toNat)))) := by
  refine Rd.start (own := RX0) rfl (by decide +kernel) (Nat.le_of_ble_eq_true rfl) ?_
  intro p e s m below meth cd args Q hQ X hr hlk hC hP
  have h_co := hP
  refine v_iconst X dX0_addedSentence_0 1 rfl ?_
  refine v_istore_n X dX0_addedSentence_1 2 rfl rfl (by decide) (L' := [(2, .int (zI 0)), (0, .ref b), (1, .int (zI d))]) rfl ?_
  refine v_iconst X dX0_addedSentence_2 3 rfl ?_
  refine v_istore_n X dX0_addedSentence_3 4 rfl rfl (by decide) (L' := [(3, .int (zI 0)), (2, .int (zI 0)), (0, .ref b), (1, .int (zI d))]) rfl ?_
  refine V_L (L' := [(3, .int (zI 0)), (2, .int (zI (sumZ (fun j => if co 1 j = d ∧ ¬ co 4 j = 0 then co 2 j + 1 else 0) 0))), (0, .ref b), (1, .int (zI d))]) (LC rfl (LC (vz (by rfl)) (LC rfl (LC rfl rfl)))) ?_
  refine up_loop ((co 0 0).toNat) (P := fun (i : Nat) => V p l e (rmL 2 0 0) s m args below meth cd Q 4 s.heap [] 0 0 4 [(3, .int (zI (i : Int))), (2, .int (zI (sumZ (fun j => if co 1 j = d ∧ ¬ co 4 j = 0 then co 2 j + 1 else 0) i))), (0, .ref b), (1, .int (zI d))] []) (fun i hi_i ih_i => ?_)
  refine v_iload_n X dX0_addedSentence_4 5 rfl 0 rfl ?_
  refine v_aload_n X dX0_addedSentence_5 6 rfl 2 rfl ?_
  refine v_getf X hC h_co inX0 0 rfl rfl 0 (by decide) kf_X0_9 (fun _ h => h) rfl dX0_addedSentence_6 9 rfl ?_
  show V p l e (rmL 2 0 0) s m args below meth cd Q 4 s.heap [] 0 0 9 [(3, .int (zI (i : Int))), (2, .int (zI (sumZ (fun j => if co 1 j = d ∧ ¬ co 4 j = 0 then co 2 j + 1 else 0) i))), (0, .ref b), (1, .int (zI d))] [.int (zI (co 0 0)), .int (zI (i : Int))]
  have hb_2 := hO.b0
  refine v_icmp_ge X (by omega) (by omega) dX0_addedSentence_9 12 46 rfl (by decide) (fun c_1 => ?_) (fun c_1 => ?_)
  · skip
    refine v_iload_n X dX0_addedSentence_46 47 rfl 1 rfl ?_
    subst hQ; exact v_iret0 X hr hlk dX0_addedSentence_47 (by rw [show i = (co 0 0).toNat by omega])
  · skip
    refine v_aload_n X dX0_addedSentence_12 13 rfl 2 rfl ?_
    refine v_getf X hC h_co inX0 0 rfl rfl 4 (by decide) kf_X0_29 (fun _ h => h) rfl dX0_addedSentence_13 16 rfl ?_
    refine v_iload_n X dX0_addedSentence_16 17 rfl 0 rfl ?_
    refine v_rdV X hC (PW.part h_co 1 2 (wc := rowW E (b + 1) 16 (co 1)) rfl) (c_X6_get l E (b + 1) 16 (co 1) (i : Int) (by omega) (by omega) (by omega)) kvX6_get kiX6_get kl_X0_157 rfl rfl (As := [.int (zI (i : Int))]) rfl rfl rfl dX0_addedSentence_17 20 rfl ?_
    show V p l e (rmL 2 0 0) s m args below meth cd Q 4 s.heap [] 0 0 20 [(3, .int (zI (i : Int))), (2, .int (zI (sumZ (fun j => if co 1 j = d ∧ ¬ co 4 j = 0 then co 2 j + 1 else 0) i))), (0, .ref b), (1, .int (zI d))] [.int (zI (co 1 (i : Int)))]
    have hb_3 := hO.b1 (i : Int)
    refine v_iload_n X dX0_addedSentence_20 21 rfl 3 rfl ?_
    refine v_icmp_ne X (by omega) (by omega) dX0_addedSentence_21 24 40 rfl (by decide) (fun c_4 => ?_) (fun c_4 => ?_)
    · skip
      refine v_iinc X dX0_addedSentence_40 43 rfl 0 rfl (by decide) (L' := [(3, .int (zI ((i : Int) + 1))), (2, .int (zI (sumZ (fun j => if co 1 j = d ∧ ¬ co 4 j = 0 then co 2 j + 1 else 0) i))), (0, .ref b), (1, .int (zI d))]) rfl ?_
      refine v_goto X dX0_addedSentence_43 4 (by decide) ?_
      exact V_L (L' := [(3, .int (zI ((i + 1 : Nat) : Int))), (2, .int (zI (sumZ (fun j => if co 1 j = d ∧ ¬ co 4 j = 0 then co 2 j + 1 else 0) (i + 1)))), (0, .ref b), (1, .int (zI d))]) (LC (vz (by omega)) (LC (vz (by first | (rw [sumZ_s, if_pos (c := co 1 (i : Int) = d ∧ ¬ co 4 (i : Int) = 0) (by first | assumption | omega)] <;> omega) | (rw [sumZ_s, if_neg (c := co 1 (i : Int) = d ∧ ¬ co 4 (i : Int) = 0) (by first | assumption | omega)] <;> omega))) (LC rfl (LC rfl rfl)))) (ih_i (by omega))
    · skip
      refine v_aload_n X dX0_addedSentence_24 25 rfl 2 rfl ?_
      refine v_iload_n X dX0_addedSentence_25 26 rfl 0 rfl ?_
      refine v_rdV X hC h_co (c_X0_isFoundGuilty l E b co (i : Int) hO (by omega) (by omega)) kvX0_isFoundGuilty kiX0_isFoundGuilty kl_X0_209 rfl rfl (As := [.int (zI (i : Int))]) rfl rfl rfl dX0_addedSentence_26 29 rfl ?_
      show V p l e (rmL 2 0 0) s m args below meth cd Q 4 s.heap [] 0 0 29 [(3, .int (zI (i : Int))), (2, .int (zI (sumZ (fun j => if co 1 j = d ∧ ¬ co 4 j = 0 then co 2 j + 1 else 0) i))), (0, .ref b), (1, .int (zI d))] [.int (zI (bz (¬ co 4 (i : Int) = 0)))]
      refine v_bif_eq X dX0_addedSentence_29 32 40 rfl (by decide) (fun c_5 => ?_) (fun c_5 => ?_)
      · skip
        refine v_iinc X dX0_addedSentence_40 43 rfl 0 rfl (by decide) (L' := [(3, .int (zI ((i : Int) + 1))), (2, .int (zI (sumZ (fun j => if co 1 j = d ∧ ¬ co 4 j = 0 then co 2 j + 1 else 0) i))), (0, .ref b), (1, .int (zI d))]) rfl ?_
        refine v_goto X dX0_addedSentence_43 4 (by decide) ?_
        exact V_L (L' := [(3, .int (zI ((i + 1 : Nat) : Int))), (2, .int (zI (sumZ (fun j => if co 1 j = d ∧ ¬ co 4 j = 0 then co 2 j + 1 else 0) (i + 1)))), (0, .ref b), (1, .int (zI d))]) (LC (vz (by omega)) (LC (vz (by first | (rw [sumZ_s, if_pos (c := co 1 (i : Int) = d ∧ ¬ co 4 (i : Int) = 0) (by first | assumption | omega)] <;> omega) | (rw [sumZ_s, if_neg (c := co 1 (i : Int) = d ∧ ¬ co 4 (i : Int) = 0) (by first | assumption | omega)] <;> omega))) (LC rfl (LC rfl rfl)))) (ih_i (by omega))
      · skip
        refine v_iload_n X dX0_addedSentence_32 33 rfl 1 rfl ?_
        refine v_aload_n X dX0_addedSentence_33 34 rfl 2 rfl ?_
        refine v_iload_n X dX0_addedSentence_34 35 rfl 0 rfl ?_
        refine v_rdV X hC h_co (c_X0_severityIn l E b co (i : Int) (by omega) (by omega)) kvX0_severityIn kiX0_severityIn kl_X0_206 rfl rfl (As := [.int (zI (i : Int))]) rfl rfl rfl dX0_addedSentence_35 38 rfl ?_
        show V p l e (rmL 2 0 0) s m args below meth cd Q 4 s.heap [] 0 0 38 [(3, .int (zI (i : Int))), (2, .int (zI (sumZ (fun j => if co 1 j = d ∧ ¬ co 4 j = 0 then co 2 j + 1 else 0) i))), (0, .ref b), (1, .int (zI d))] [.int (zI (co 2 (i : Int) + 1)), .int (zI (sumZ (fun j => if co 1 j = d ∧ ¬ co 4 j = 0 then co 2 j + 1 else 0) i))]
        have hb_6 := hO.b2 (i : Int)
        refine v_iadd X dX0_addedSentence_38 39 rfl ?_
        refine v_istore_n X dX0_addedSentence_39 40 rfl rfl (by decide) (L' := [(2, .int (zI (sumZ (fun j => if co 1 j = d ∧ ¬ co 4 j = 0 then co 2 j + 1 else 0) i + (co 2 (i : Int) + 1)))), (3, .int (zI (i : Int))), (0, .ref b), (1, .int (zI d))]) rfl ?_
        refine v_iinc X dX0_addedSentence_40 43 rfl 1 rfl (by decide) (L' := [(3, .int (zI ((i : Int) + 1))), (2, .int (zI (sumZ (fun j => if co 1 j = d ∧ ¬ co 4 j = 0 then co 2 j + 1 else 0) i + (co 2 (i : Int) + 1)))), (0, .ref b), (1, .int (zI d))]) rfl ?_
        refine v_goto X dX0_addedSentence_43 4 (by decide) ?_
        exact V_L (L' := [(3, .int (zI ((i + 1 : Nat) : Int))), (2, .int (zI (sumZ (fun j => if co 1 j = d ∧ ¬ co 4 j = 0 then co 2 j + 1 else 0) (i + 1)))), (0, .ref b), (1, .int (zI d))]) (LC (vz (by omega)) (LC (vz (by first | (rw [sumZ_s, if_pos (c := co 1 (i : Int) = d ∧ ¬ co 4 (i : Int) = 0) (by first | assumption | omega)] <;> omega) | (rw [sumZ_s, if_neg (c := co 1 (i : Int) = d ∧ ¬ co 4 (i : Int) = 0) (by first | assumption | omega)] <;> omega))) (LC rfl (LC rfl rfl)))) (ih_i (by omega))
set_option maxHeartbeats 4000000 in
set_option maxRecDepth 20000 in
theorem c_X0_openCasesBefore (l : Launch) (E : Nat → Nat → Nat) (b : Nat) (co : Nat → Int → Int) (k : Int) (hO : OkC co) (k0 : 0 ≤ k) (k1 : k < 16) : Rd l yX0_openCasesBefore cX0_openCasesBefore 4 (some .int) 2 E [.ref b, .int (zI k)] (courtW E b co) (some (.int (zI (sumZ (fun j => bz (co 3 j = 0 ∧ cbC co j k)) (co 0 0).toNat)))) := by
  refine Rd.start (own := RX0) rfl (by decide +kernel) (Nat.le_of_ble_eq_true rfl) ?_
  intro p e s m below meth cd args Q hQ X hr hlk hC hP
  have h_co := hP
  refine v_iconst X dX0_openCasesBefore_0 1 rfl ?_
  refine v_istore_n X dX0_openCasesBefore_1 2 rfl rfl (by decide) (L' := [(2, .int (zI 0)), (0, .ref b), (1, .int (zI k))]) rfl ?_
  refine v_iconst X dX0_openCasesBefore_2 3 rfl ?_
  refine v_istore_n X dX0_openCasesBefore_3 4 rfl rfl (by decide) (L' := [(3, .int (zI 0)), (2, .int (zI 0)), (0, .ref b), (1, .int (zI k))]) rfl ?_
  refine V_L (L' := [(3, .int (zI 0)), (2, .int (zI (sumZ (fun j => bz (co 3 j = 0 ∧ cbC co j k)) 0))), (0, .ref b), (1, .int (zI k))]) (LC rfl (LC (vz (by rfl)) (LC rfl (LC rfl rfl)))) ?_
  refine up_loop ((co 0 0).toNat) (P := fun (i : Nat) => V p l e (rmL 2 0 0) s m args below meth cd Q 4 s.heap [] 0 0 4 [(3, .int (zI (i : Int))), (2, .int (zI (sumZ (fun j => bz (co 3 j = 0 ∧ cbC co j k)) i))), (0, .ref b), (1, .int (zI k))] []) (fun i hi_i ih_i => ?_)
  refine v_iload_n X dX0_openCasesBefore_4 5 rfl 0 rfl ?_
  refine v_aload_n X dX0_openCasesBefore_5 6 rfl 2 rfl ?_
  refine v_getf X hC h_co inX0 0 rfl rfl 0 (by decide) kf_X0_9 (fun _ h => h) rfl dX0_openCasesBefore_6 9 rfl ?_
  show V p l e (rmL 2 0 0) s m args below meth cd Q 4 s.heap [] 0 0 9 [(3, .int (zI (i : Int))), (2, .int (zI (sumZ (fun j => bz (co 3 j = 0 ∧ cbC co j k)) i))), (0, .ref b), (1, .int (zI k))] [.int (zI (co 0 0)), .int (zI (i : Int))]
  have hb_2 := hO.b0
  refine v_icmp_ge X (by omega) (by omega) dX0_openCasesBefore_9 12 39 rfl (by decide) (fun c_1 => ?_) (fun c_1 => ?_)
  · skip
    refine v_iload_n X dX0_openCasesBefore_39 40 rfl 1 rfl ?_
    subst hQ; exact v_iret0 X hr hlk dX0_openCasesBefore_40 (by rw [show i = (co 0 0).toNat by omega])
  · skip
    refine v_aload_n X dX0_openCasesBefore_12 13 rfl 2 rfl ?_
    refine v_iconst X dX0_openCasesBefore_13 14 rfl ?_
    refine v_iload_n X dX0_openCasesBefore_14 15 rfl 0 rfl ?_
    refine v_rdV X hC h_co (c_X0_isIn l E b co 0 (i : Int) hO (by omega) (by omega) (by omega)) kvX0_isIn kiX0_isIn kl_X0_160 rfl rfl (As := [.int (zI 0), .int (zI (i : Int))]) rfl rfl rfl dX0_openCasesBefore_15 18 rfl ?_
    show V p l e (rmL 2 0 0) s m args below meth cd Q 4 s.heap [] 0 0 18 [(3, .int (zI (i : Int))), (2, .int (zI (sumZ (fun j => bz (co 3 j = 0 ∧ cbC co j k)) i))), (0, .ref b), (1, .int (zI k))] [.int (zI (bz (co 3 (i : Int) = 0)))]
    refine v_bif_eq X dX0_openCasesBefore_18 21 33 rfl (by decide) (fun c_3 => ?_) (fun c_3 => ?_)
    · skip
      refine v_iinc X dX0_openCasesBefore_33 36 rfl 0 rfl (by decide) (L' := [(3, .int (zI ((i : Int) + 1))), (2, .int (zI (sumZ (fun j => bz (co 3 j = 0 ∧ cbC co j k)) i))), (0, .ref b), (1, .int (zI k))]) rfl ?_
      refine v_goto X dX0_openCasesBefore_36 4 (by decide) ?_
      exact V_L (L' := [(3, .int (zI ((i + 1 : Nat) : Int))), (2, .int (zI (sumZ (fun j => bz (co 3 j = 0 ∧ cbC co j k)) (i + 1)))), (0, .ref b), (1, .int (zI k))]) (LC (vz (by omega)) (LC (vz (by first | rw [sumZ_s, bz_t (φ := co 3 (i : Int) = 0 ∧ cbC co (i : Int) k) (by first | assumption | omega)] | (rw [sumZ_s, bz_f (φ := co 3 (i : Int) = 0 ∧ cbC co (i : Int) k) (by first | assumption | omega)]; omega))) (LC rfl (LC rfl rfl)))) (ih_i (by omega))
    · skip
      refine v_aload_n X dX0_openCasesBefore_21 22 rfl 2 rfl ?_
      refine v_iload_n X dX0_openCasesBefore_22 23 rfl 0 rfl ?_
      refine v_iload_n X dX0_openCasesBefore_23 24 rfl 3 rfl ?_
      refine v_rdV X hC h_co (c_X0_comesBefore l E b co (i : Int) k hO (by omega) (by omega) k0 k1) kvX0_comesBefore kiX0_comesBefore kl_X0_227 rfl rfl (As := [.int (zI (i : Int)), .int (zI k)]) rfl rfl rfl dX0_openCasesBefore_24 27 rfl ?_
      show V p l e (rmL 2 0 0) s m args below meth cd Q 4 s.heap [] 0 0 27 [(3, .int (zI (i : Int))), (2, .int (zI (sumZ (fun j => bz (co 3 j = 0 ∧ cbC co j k)) i))), (0, .ref b), (1, .int (zI k))] [.int (zI (bz (cbC co (i : Int) k)))]
      refine v_bif_eq X dX0_openCasesBefore_27 30 33 rfl (by decide) (fun c_4 => ?_) (fun c_4 => ?_)
      · skip
        refine v_iinc X dX0_openCasesBefore_33 36 rfl 0 rfl (by decide) (L' := [(3, .int (zI ((i : Int) + 1))), (2, .int (zI (sumZ (fun j => bz (co 3 j = 0 ∧ cbC co j k)) i))), (0, .ref b), (1, .int (zI k))]) rfl ?_
        refine v_goto X dX0_openCasesBefore_36 4 (by decide) ?_
        exact V_L (L' := [(3, .int (zI ((i + 1 : Nat) : Int))), (2, .int (zI (sumZ (fun j => bz (co 3 j = 0 ∧ cbC co j k)) (i + 1)))), (0, .ref b), (1, .int (zI k))]) (LC (vz (by omega)) (LC (vz (by first | rw [sumZ_s, bz_t (φ := co 3 (i : Int) = 0 ∧ cbC co (i : Int) k) (by first | assumption | omega)] | (rw [sumZ_s, bz_f (φ := co 3 (i : Int) = 0 ∧ cbC co (i : Int) k) (by first | assumption | omega)]; omega))) (LC rfl (LC rfl rfl)))) (ih_i (by omega))
      · skip
        refine v_iinc X dX0_openCasesBefore_30 33 rfl 1 rfl (by decide) (L' := [(2, .int (zI (sumZ (fun j => bz (co 3 j = 0 ∧ cbC co j k)) i + 1))), (3, .int (zI (i : Int))), (0, .ref b), (1, .int (zI k))]) rfl ?_
        refine v_iinc X dX0_openCasesBefore_33 36 rfl 1 rfl (by decide) (L' := [(3, .int (zI ((i : Int) + 1))), (2, .int (zI (sumZ (fun j => bz (co 3 j = 0 ∧ cbC co j k)) i + 1))), (0, .ref b), (1, .int (zI k))]) rfl ?_
        refine v_goto X dX0_openCasesBefore_36 4 (by decide) ?_
        exact V_L (L' := [(3, .int (zI ((i + 1 : Nat) : Int))), (2, .int (zI (sumZ (fun j => bz (co 3 j = 0 ∧ cbC co j k)) (i + 1)))), (0, .ref b), (1, .int (zI k))]) (LC (vz (by omega)) (LC (vz (by first | rw [sumZ_s, bz_t (φ := co 3 (i : Int) = 0 ∧ cbC co (i : Int) k) (by first | assumption | omega)] | (rw [sumZ_s, bz_f (φ := co 3 (i : Int) = 0 ∧ cbC co (i : Int) k) (by first | assumption | omega)]; omega))) (LC rfl (LC rfl rfl)))) (ih_i (by omega))
set_option maxHeartbeats 4000000 in
set_option maxRecDepth 20000 in
theorem c_X0_rankOf (l : Launch) (E : Nat → Nat → Nat) (b : Nat) (co : Nat → Int → Int) (w : Int) (hO : OkC co) (w0 : 0 ≤ w) (w1 : w < 8) : Rd l yX0_rankOf cX0_rankOf 4 (some .int) 4 E [.ref b, .int (zI w)] (courtW E b co) (some (.int (zI (sumZ (fun j => bz (mcC co j w)) (co 0 1).toNat)))) := by
  refine Rd.start (own := RX0) rfl (by decide +kernel) (Nat.le_of_ble_eq_true rfl) ?_
  intro p e s m below meth cd args Q hQ X hr hlk hC hP
  have h_co := hP
  refine v_iconst X dX0_rankOf_0 1 rfl ?_
  refine v_istore_n X dX0_rankOf_1 2 rfl rfl (by decide) (L' := [(2, .int (zI 0)), (0, .ref b), (1, .int (zI w))]) rfl ?_
  refine v_iconst X dX0_rankOf_2 3 rfl ?_
  refine v_istore_n X dX0_rankOf_3 4 rfl rfl (by decide) (L' := [(3, .int (zI 0)), (2, .int (zI 0)), (0, .ref b), (1, .int (zI w))]) rfl ?_
  refine V_L (L' := [(3, .int (zI 0)), (2, .int (zI (sumZ (fun j => bz (mcC co j w)) 0))), (0, .ref b), (1, .int (zI w))]) (LC rfl (LC (vz (by rfl)) (LC rfl (LC rfl rfl)))) ?_
  refine up_loop ((co 0 1).toNat) (P := fun (i : Nat) => V p l e (rmL 4 0 0) s m args below meth cd Q 4 s.heap [] 0 0 4 [(3, .int (zI (i : Int))), (2, .int (zI (sumZ (fun j => bz (mcC co j w)) i))), (0, .ref b), (1, .int (zI w))] []) (fun i hi_i ih_i => ?_)
  refine v_iload_n X dX0_rankOf_4 5 rfl 0 rfl ?_
  refine v_aload_n X dX0_rankOf_5 6 rfl 2 rfl ?_
  refine v_getf X hC h_co inX0 0 rfl rfl 1 (by decide) kf_X0_15 (fun _ h => h) rfl dX0_rankOf_6 9 rfl ?_
  show V p l e (rmL 4 0 0) s m args below meth cd Q 4 s.heap [] 0 0 9 [(3, .int (zI (i : Int))), (2, .int (zI (sumZ (fun j => bz (mcC co j w)) i))), (0, .ref b), (1, .int (zI w))] [.int (zI (co 0 1)), .int (zI (i : Int))]
  have hb_2 := hO.bw
  refine v_icmp_ge X (by omega) (by omega) dX0_rankOf_9 12 30 rfl (by decide) (fun c_1 => ?_) (fun c_1 => ?_)
  · skip
    refine v_iload_n X dX0_rankOf_30 31 rfl 1 rfl ?_
    subst hQ; exact v_iret0 X hr hlk dX0_rankOf_31 (by rw [show i = (co 0 1).toNat by omega])
  · skip
    refine v_aload_n X dX0_rankOf_12 13 rfl 2 rfl ?_
    refine v_iload_n X dX0_rankOf_13 14 rfl 0 rfl ?_
    refine v_iload_n X dX0_rankOf_14 15 rfl 3 rfl ?_
    refine v_rdV X hC h_co (c_X0_isMoreCredible l E b co (i : Int) w hO (by omega) (by omega) w0 w1) kvX0_isMoreCredible kiX0_isMoreCredible kl_X0_221 rfl rfl (As := [.int (zI (i : Int)), .int (zI w)]) rfl rfl rfl dX0_rankOf_15 18 rfl ?_
    show V p l e (rmL 4 0 0) s m args below meth cd Q 4 s.heap [] 0 0 18 [(3, .int (zI (i : Int))), (2, .int (zI (sumZ (fun j => bz (mcC co j w)) i))), (0, .ref b), (1, .int (zI w))] [.int (zI (bz (mcC co (i : Int) w)))]
    refine v_bif_eq X dX0_rankOf_18 21 24 rfl (by decide) (fun c_3 => ?_) (fun c_3 => ?_)
    · skip
      refine v_iinc X dX0_rankOf_24 27 rfl 0 rfl (by decide) (L' := [(3, .int (zI ((i : Int) + 1))), (2, .int (zI (sumZ (fun j => bz (mcC co j w)) i))), (0, .ref b), (1, .int (zI w))]) rfl ?_
      refine v_goto X dX0_rankOf_27 4 (by decide) ?_
      exact V_L (L' := [(3, .int (zI ((i + 1 : Nat) : Int))), (2, .int (zI (sumZ (fun j => bz (mcC co j w)) (i + 1)))), (0, .ref b), (1, .int (zI w))]) (LC (vz (by omega)) (LC (vz (by first | rw [sumZ_s, bz_t (φ := mcC co (i : Int) w) (by first | assumption | omega)] | (rw [sumZ_s, bz_f (φ := mcC co (i : Int) w) (by first | assumption | omega)]; omega))) (LC rfl (LC rfl rfl)))) (ih_i (by omega))
    · skip
      refine v_iinc X dX0_rankOf_21 24 rfl 1 rfl (by decide) (L' := [(2, .int (zI (sumZ (fun j => bz (mcC co j w)) i + 1))), (3, .int (zI (i : Int))), (0, .ref b), (1, .int (zI w))]) rfl ?_
      refine v_iinc X dX0_rankOf_24 27 rfl 1 rfl (by decide) (L' := [(3, .int (zI ((i : Int) + 1))), (2, .int (zI (sumZ (fun j => bz (mcC co j w)) i + 1))), (0, .ref b), (1, .int (zI w))]) rfl ?_
      refine v_goto X dX0_rankOf_27 4 (by decide) ?_
      exact V_L (L' := [(3, .int (zI ((i + 1 : Nat) : Int))), (2, .int (zI (sumZ (fun j => bz (mcC co j w)) (i + 1)))), (0, .ref b), (1, .int (zI w))]) (LC (vz (by omega)) (LC (vz (by first | rw [sumZ_s, bz_t (φ := mcC co (i : Int) w) (by first | assumption | omega)] | (rw [sumZ_s, bz_f (φ := mcC co (i : Int) w) (by first | assumption | omega)]; omega))) (LC rfl (LC rfl rfl)))) (ih_i (by omega))
theorem c_X0_rankOfN (l : Launch) (E : Nat → Nat → Nat) (b : Nat) (co : Nat → Int → Int) (w : Int) (hO : OkC co) (w0 : 0 ≤ w) (w1 : w < 8) : Rd l yX0_rankOf cX0_rankOf 4 (some .int) 4 E [.ref b, .int (zI w)] (courtW E b co) (some (.int (zI (rkC co w)))) := c_X0_rankOf l E b co w hO w0 w1
set_option maxHeartbeats 4000000 in
set_option maxRecDepth 20000 in
theorem c_X0_caseAgainst (l : Launch) (E : Nat → Nat → Nat) (b : Nat) (co : Nat → Int → Int) (d : Int) (o : Int) (hO : OkC co) (d0 : 0 ≤ d) (d1 : d < 6) (o0 : 0 ≤ o) (o1 : o < 5) : Rd l yX0_caseAgainst cX0_caseAgainst 4 (some .int) 1 E [.ref b, .int (zI d), .int (zI o)] (courtW E b co) (some (.int (zI (firstZ (fun j => co 1 j = d ∧ co 2 j = o) (co 0 0).toNat)))) := by
  refine Rd.start (own := RX0) rfl (by decide +kernel) (Nat.le_of_ble_eq_true rfl) ?_
  intro p e s m below meth cd args Q hQ X hr hlk hC hP
  have h_co := hP
  refine v_iconst X dX0_caseAgainst_0 1 rfl ?_
  refine v_istore_n X dX0_caseAgainst_1 2 rfl rfl (by decide) (L' := [(3, .int (zI 0)), (0, .ref b), (1, .int (zI d)), (2, .int (zI o))]) rfl ?_
  refine V_L (L' := [(3, .int (zI 0)), (0, .ref b), (1, .int (zI d)), (2, .int (zI o))]) (LC rfl (LC rfl (LC rfl (LC rfl rfl)))) ?_
  refine up_loop ((co 0 0).toNat) (P := fun (i : Nat) => (∀ j : Int, 0 ≤ j → j < (i : Int) → ¬ (co 1 j = d ∧ co 2 j = o)) → V p l e (rmL 1 0 0) s m args below meth cd Q 4 s.heap [] 0 0 2 [(3, .int (zI (i : Int))), (0, .ref b), (1, .int (zI d)), (2, .int (zI o))] []) (fun i hi_i ih_i hno_i => ?_) (fun j a b => absurd b (by omega))
  refine v_iload_n X dX0_caseAgainst_2 3 rfl 0 rfl ?_
  refine v_aload_n X dX0_caseAgainst_3 4 rfl 1 rfl ?_
  refine v_getf X hC h_co inX0 0 rfl rfl 0 (by decide) kf_X0_9 (fun _ h => h) rfl dX0_caseAgainst_4 7 rfl ?_
  show V p l e (rmL 1 0 0) s m args below meth cd Q 4 s.heap [] 0 0 7 [(3, .int (zI (i : Int))), (0, .ref b), (1, .int (zI d)), (2, .int (zI o))] [.int (zI (co 0 0)), .int (zI (i : Int))]
  have hb_2 := hO.b0
  refine v_icmp_ge X (by omega) (by omega) dX0_caseAgainst_7 10 42 rfl (by decide) (fun c_1 => ?_) (fun c_1 => ?_)
  · skip
    refine v_iconst X dX0_caseAgainst_42 43 rfl ?_
    subst hQ; exact v_iret0 X hr hlk dX0_caseAgainst_43 (by first | exact (firstZ_hit (p := fun j => co 1 j = d ∧ co 2 j = o) (by omega) (by omega) (by first | assumption | (show co 1 (i : Int) = d ∧ co 2 (i : Int) = o; omega)) hno_i) | exact (firstZ_none (p := fun j => co 1 j = d ∧ co 2 j = o) (fun j a b => hno_i j a (by omega))))
  · skip
    refine v_aload_n X dX0_caseAgainst_10 11 rfl 1 rfl ?_
    refine v_getf X hC h_co inX0 0 rfl rfl 4 (by decide) kf_X0_29 (fun _ h => h) rfl dX0_caseAgainst_11 14 rfl ?_
    refine v_iload_n X dX0_caseAgainst_14 15 rfl 0 rfl ?_
    refine v_rdV X hC (PW.part h_co 1 2 (wc := rowW E (b + 1) 16 (co 1)) rfl) (c_X6_get l E (b + 1) 16 (co 1) (i : Int) (by omega) (by omega) (by omega)) kvX6_get kiX6_get kl_X0_157 rfl rfl (As := [.int (zI (i : Int))]) rfl rfl rfl dX0_caseAgainst_15 18 rfl ?_
    show V p l e (rmL 1 0 0) s m args below meth cd Q 4 s.heap [] 0 0 18 [(3, .int (zI (i : Int))), (0, .ref b), (1, .int (zI d)), (2, .int (zI o))] [.int (zI (co 1 (i : Int)))]
    have hb_3 := hO.b1 (i : Int)
    refine v_iload_n X dX0_caseAgainst_18 19 rfl 2 rfl ?_
    refine v_icmp_ne X (by omega) (by omega) dX0_caseAgainst_19 22 36 rfl (by decide) (fun c_4 => ?_) (fun c_4 => ?_)
    · skip
      refine v_iinc X dX0_caseAgainst_36 39 rfl 0 rfl (by decide) (L' := [(3, .int (zI ((i : Int) + 1))), (0, .ref b), (1, .int (zI d)), (2, .int (zI o))]) rfl ?_
      refine v_goto X dX0_caseAgainst_39 2 (by decide) ?_
      exact V_L (L' := [(3, .int (zI ((i + 1 : Nat) : Int))), (0, .ref b), (1, .int (zI d)), (2, .int (zI o))]) (LC (vz (by omega)) (LC rfl (LC rfl (LC rfl rfl)))) (ih_i (by omega) (fun j a b => by
        rcases (show j < (i : Int) ∨ (i : Int) ≤ j by omega) with q | q
        · exact hno_i j a q
        · have e : j = (i : Int) := by omega
          subst e
          first | assumption | omega))
    · skip
      refine v_aload_n X dX0_caseAgainst_22 23 rfl 1 rfl ?_
      refine v_getf X hC h_co inX0 0 rfl rfl 5 (by decide) kf_X0_33 (fun _ h => h) rfl dX0_caseAgainst_23 26 rfl ?_
      refine v_iload_n X dX0_caseAgainst_26 27 rfl 0 rfl ?_
      refine v_rdV X hC (PW.part h_co 3 2 (wc := rowW E (b + 3) 16 (co 2)) rfl) (c_X6_get l E (b + 3) 16 (co 2) (i : Int) (by omega) (by omega) (by omega)) kvX6_get kiX6_get kl_X0_157 rfl rfl (As := [.int (zI (i : Int))]) rfl rfl rfl dX0_caseAgainst_27 30 rfl ?_
      show V p l e (rmL 1 0 0) s m args below meth cd Q 4 s.heap [] 0 0 30 [(3, .int (zI (i : Int))), (0, .ref b), (1, .int (zI d)), (2, .int (zI o))] [.int (zI (co 2 (i : Int)))]
      have hb_5 := hO.b2 (i : Int)
      refine v_iload_n X dX0_caseAgainst_30 31 rfl 3 rfl ?_
      refine v_icmp_ne X (by omega) (by omega) dX0_caseAgainst_31 34 36 rfl (by decide) (fun c_6 => ?_) (fun c_6 => ?_)
      · skip
        refine v_iinc X dX0_caseAgainst_36 39 rfl 0 rfl (by decide) (L' := [(3, .int (zI ((i : Int) + 1))), (0, .ref b), (1, .int (zI d)), (2, .int (zI o))]) rfl ?_
        refine v_goto X dX0_caseAgainst_39 2 (by decide) ?_
        exact V_L (L' := [(3, .int (zI ((i + 1 : Nat) : Int))), (0, .ref b), (1, .int (zI d)), (2, .int (zI o))]) (LC (vz (by omega)) (LC rfl (LC rfl (LC rfl rfl)))) (ih_i (by omega) (fun j a b => by
          rcases (show j < (i : Int) ∨ (i : Int) ≤ j by omega) with q | q
          · exact hno_i j a q
          · have e : j = (i : Int) := by omega
            subst e
            first | assumption | omega))
      · skip
        refine v_iload_n X dX0_caseAgainst_34 35 rfl 0 rfl ?_
        subst hQ; exact v_iret0 X hr hlk dX0_caseAgainst_35 (by first | exact (firstZ_hit (p := fun j => co 1 j = d ∧ co 2 j = o) (by omega) (by omega) (by first | assumption | (show co 1 (i : Int) = d ∧ co 2 (i : Int) = o; omega)) hno_i) | exact (firstZ_none (p := fun j => co 1 j = d ∧ co 2 j = o) (fun j a b => hno_i j a (by omega))))
set_option maxHeartbeats 4000000 in
set_option maxRecDepth 20000 in
theorem c_X0_witnessOfRank (l : Launch) (E : Nat → Nat → Nat) (b : Nat) (co : Nat → Int → Int) (x : Int) (hO : OkC co) (hx : Rg x) : Rd l yX0_witnessOfRank cX0_witnessOfRank 3 (some .int) 5 E [.ref b, .int (zI x)] (courtW E b co) (some (.int (zI (firstZ (fun j => rkC co j = x) (co 0 1).toNat)))) := by
  refine Rd.start (own := RX0) rfl (by decide +kernel) (Nat.le_of_ble_eq_true rfl) ?_
  intro p e s m below meth cd args Q hQ X hr hlk hC hP
  have h_co := hP
  refine v_iconst X dX0_witnessOfRank_0 1 rfl ?_
  refine v_istore_n X dX0_witnessOfRank_1 2 rfl rfl (by decide) (L' := [(2, .int (zI 0)), (0, .ref b), (1, .int (zI x))]) rfl ?_
  refine V_L (L' := [(2, .int (zI 0)), (0, .ref b), (1, .int (zI x))]) (LC rfl (LC rfl (LC rfl rfl))) ?_
  refine up_loop ((co 0 1).toNat) (P := fun (i : Nat) => (∀ j : Int, 0 ≤ j → j < (i : Int) → ¬ (rkC co j = x)) → V p l e (rmL 5 0 0) s m args below meth cd Q 3 s.heap [] 0 0 2 [(2, .int (zI (i : Int))), (0, .ref b), (1, .int (zI x))] []) (fun i hi_i ih_i hno_i => ?_) (fun j a b => absurd b (by omega))
  refine v_iload_n X dX0_witnessOfRank_2 3 rfl 0 rfl ?_
  refine v_aload_n X dX0_witnessOfRank_3 4 rfl 1 rfl ?_
  refine v_getf X hC h_co inX0 0 rfl rfl 1 (by decide) kf_X0_15 (fun _ h => h) rfl dX0_witnessOfRank_4 7 rfl ?_
  show V p l e (rmL 5 0 0) s m args below meth cd Q 3 s.heap [] 0 0 7 [(2, .int (zI (i : Int))), (0, .ref b), (1, .int (zI x))] [.int (zI (co 0 1)), .int (zI (i : Int))]
  have hb_2 := hO.bw
  refine v_icmp_ge X (by omega) (by omega) dX0_witnessOfRank_7 10 27 rfl (by decide) (fun c_1 => ?_) (fun c_1 => ?_)
  · skip
    refine v_iconst X dX0_witnessOfRank_27 28 rfl ?_
    subst hQ; exact v_iret0 X hr hlk dX0_witnessOfRank_28 (by first | exact (firstZ_hit (p := fun j => rkC co j = x) (by omega) (by omega) (by first | assumption | (show rkC co (i : Int) = x; omega)) hno_i) | exact (firstZ_none (p := fun j => rkC co j = x) (fun j a b => hno_i j a (by omega))))
  · skip
    refine v_aload_n X dX0_witnessOfRank_10 11 rfl 1 rfl ?_
    refine v_iload_n X dX0_witnessOfRank_11 12 rfl 0 rfl ?_
    refine v_rdV X hC h_co (c_X0_rankOfN l E b co (i : Int) hO (by omega) (by omega)) kvX0_rankOf kiX0_rankOf kl_X0_218 rfl rfl (As := [.int (zI (i : Int))]) rfl rfl rfl dX0_witnessOfRank_12 15 rfl ?_
    show V p l e (rmL 5 0 0) s m args below meth cd Q 3 s.heap [] 0 0 15 [(2, .int (zI (i : Int))), (0, .ref b), (1, .int (zI x))] [.int (zI (rkC co (i : Int)))]
    have hf_3 := rkC_b co (i : Int)
    have hf_4 := hO.bw
    refine v_iload_n X dX0_witnessOfRank_15 16 rfl 2 rfl ?_
    refine v_icmp_ne X (by omega) (by omega) dX0_witnessOfRank_16 19 21 rfl (by decide) (fun c_5 => ?_) (fun c_5 => ?_)
    · skip
      refine v_iinc X dX0_witnessOfRank_21 24 rfl 0 rfl (by decide) (L' := [(2, .int (zI ((i : Int) + 1))), (0, .ref b), (1, .int (zI x))]) rfl ?_
      refine v_goto X dX0_witnessOfRank_24 2 (by decide) ?_
      exact V_L (L' := [(2, .int (zI ((i + 1 : Nat) : Int))), (0, .ref b), (1, .int (zI x))]) (LC (vz (by omega)) (LC rfl (LC rfl rfl))) (ih_i (by omega) (fun j a b => by
        rcases (show j < (i : Int) ∨ (i : Int) ≤ j by omega) with q | q
        · exact hno_i j a q
        · have e : j = (i : Int) := by omega
          subst e
          first | assumption | omega))
    · skip
      refine v_iload_n X dX0_witnessOfRank_19 20 rfl 0 rfl ?_
      subst hQ; exact v_iret0 X hr hlk dX0_witnessOfRank_20 (by first | exact (firstZ_hit (p := fun j => rkC co j = x) (by omega) (by omega) (by first | assumption | (show rkC co (i : Int) = x; omega)) hno_i) | exact (firstZ_none (p := fun j => rkC co j = x) (fun j a b => hno_i j a (by omega))))
set_option maxHeartbeats 4000000 in
set_option maxRecDepth 20000 in
theorem c_X8_ofSide (l : Launch) (E : Nat → Nat → Nat) (b : Nat) (co : Nat → Int → Int) (k : Int) (sd : Int) (hO : OkC co) (k0 : 0 ≤ k) (k1 : k < 16) (hsd : -1 ≤ sd ∧ sd ≤ 1) : Rd l yX8_ofSide cX8_ofSide 6 (some .int) 2 E [.ref b, .int (zI k), .int (zI sd)] (courtW E b co) (some (.int (zI (sumZ (fun j => if sdC co k j = sd then wtC co k j else 0) (co 6 k).toNat)))) := by
  refine Rd.start (own := RX8) rfl (by decide +kernel) (Nat.le_of_ble_eq_true rfl) ?_
  intro p e s m below meth cd args Q hQ X hr hlk hC hP
  have h_co := hP
  refine v_iconst X dX8_ofSide_0 1 rfl ?_
  refine v_istore_n X dX8_ofSide_1 2 rfl rfl (by decide) (L' := [(3, .int (zI 0)), (0, .ref b), (1, .int (zI k)), (2, .int (zI sd))]) rfl ?_
  refine v_iconst X dX8_ofSide_2 3 rfl ?_
  refine v_istore X dX8_ofSide_3 5 rfl (by decide) (L' := [(4, .int (zI 0)), (3, .int (zI 0)), (0, .ref b), (1, .int (zI k)), (2, .int (zI sd))]) rfl ?_
  refine V_L (L' := [(4, .int (zI 0)), (3, .int (zI (sumZ (fun j => if sdC co k j = sd then wtC co k j else 0) 0))), (0, .ref b), (1, .int (zI k)), (2, .int (zI sd))]) (LC rfl (LC (vz (by rfl)) (LC rfl (LC rfl (LC rfl rfl))))) ?_
  refine up_loop ((co 6 k).toNat) (P := fun (i : Nat) => V p l e (rmL 2 0 0) s m args below meth cd Q 6 s.heap [] 0 0 5 [(4, .int (zI (i : Int))), (3, .int (zI (sumZ (fun j => if sdC co k j = sd then wtC co k j else 0) i))), (0, .ref b), (1, .int (zI k)), (2, .int (zI sd))] []) (fun i hi_i ih_i => ?_)
  refine v_iload X dX8_ofSide_5 7 rfl 0 rfl ?_
  refine v_aload_n X dX8_ofSide_7 8 rfl 2 rfl ?_
  refine v_getfN X hC h_co inX0 0 rfl rfl 9 (by decide) kfn_X8_9 (fun _ h => h) rfl dX8_ofSide_8 11 rfl ?_
  refine v_iload_n X dX8_ofSide_11 12 rfl 3 rfl ?_
  refine v_rdV X hC (PW.part h_co 11 2 (wc := rowW E (b + 11) 16 (co 6)) rfl) (c_X6_get l E (b + 11) 16 (co 6) k k0 k1 (by omega)) kvX6_get kiX6_get kl_X8_15 rfl rfl (As := [.int (zI k)]) rfl rfl rfl dX8_ofSide_12 15 rfl ?_
  show V p l e (rmL 2 0 0) s m args below meth cd Q 6 s.heap [] 0 0 15 [(4, .int (zI (i : Int))), (3, .int (zI (sumZ (fun j => if sdC co k j = sd then wtC co k j else 0) i))), (0, .ref b), (1, .int (zI k)), (2, .int (zI sd))] [.int (zI (co 6 k)), .int (zI (i : Int))]
  have hb_1 := hO.b6 k
  refine v_icmp_ge X (by omega) (by omega) dX8_ofSide_15 18 54 rfl (by decide) (fun c_2 => ?_) (fun c_2 => ?_)
  · skip
    refine v_iload_n X dX8_ofSide_54 55 rfl 1 rfl ?_
    subst hQ; exact v_iret0 X hr hlk dX8_ofSide_55 (by rw [show i = (co 6 k).toNat by omega])
  · skip
    refine v_aload_n X dX8_ofSide_18 19 rfl 2 rfl ?_
    refine v_iload_n X dX8_ofSide_19 20 rfl 3 rfl ?_
    refine v_iload X dX8_ofSide_20 22 rfl 0 rfl ?_
    refine v_rdV X hC h_co (c_X0_witnessHeardAt l E b co k (i : Int) k0 k1 (by omega) (by omega)) kvX0_witnessHeardAt kiX0_witnessHeardAt kl_X8_21 rfl rfl (As := [.int (zI k), .int (zI (i : Int))]) rfl rfl rfl dX8_ofSide_22 25 rfl ?_
    show V p l e (rmL 2 0 0) s m args below meth cd Q 6 s.heap [] 0 0 25 [(4, .int (zI (i : Int))), (3, .int (zI (sumZ (fun j => if sdC co k j = sd then wtC co k j else 0) i))), (0, .ref b), (1, .int (zI k)), (2, .int (zI sd))] [.int (zI (co 7 (k * 6 + (i : Int))))]
    have hb_3 := hO.b7 (k * 6 + (i : Int))
    refine v_istore X dX8_ofSide_25 27 rfl (by decide) (L' := [(5, .int (zI (co 7 (k * 6 + (i : Int))))), (4, .int (zI (i : Int))), (3, .int (zI (sumZ (fun j => if sdC co k j = sd then wtC co k j else 0) i))), (0, .ref b), (1, .int (zI k)), (2, .int (zI sd))]) rfl ?_
    refine v_aload_n X dX8_ofSide_27 28 rfl 3 rfl ?_
    refine v_iload_n X dX8_ofSide_28 29 rfl 4 rfl ?_
    refine v_iload X dX8_ofSide_29 31 rfl 0 rfl ?_
    refine v_rdV X hC h_co (c_X0_sideOf l E b co k (co 7 (k * 6 + (i : Int))) k0 k1 (by omega) (by omega)) kvX0_sideOf kiX0_sideOf kl_X8_25 rfl rfl (As := [.int (zI k), .int (zI (co 7 (k * 6 + (i : Int))))]) rfl rfl rfl dX8_ofSide_31 34 rfl ?_
    show V p l e (rmL 2 0 0) s m args below meth cd Q 6 s.heap [] 0 0 34 [(5, .int (zI (co 7 (k * 6 + (i : Int))))), (4, .int (zI (i : Int))), (3, .int (zI (sumZ (fun j => if sdC co k j = sd then wtC co k j else 0) i))), (0, .ref b), (1, .int (zI k)), (2, .int (zI sd))] [.int (zI (co 8 (k * 8 + (co 7 (k * 6 + (i : Int))))))]
    have hb_4 := hO.b8 (k * 8 + (co 7 (k * 6 + (i : Int))))
    refine v_iload_n X dX8_ofSide_34 35 rfl 5 rfl ?_
    refine v_icmp_ne X (by omega) (by omega) dX8_ofSide_35 38 48 rfl (by decide) (fun c_5 => ?_) (fun c_5 => ?_)
    · skip
      refine v_iinc X dX8_ofSide_48 51 rfl 1 rfl (by decide) (L' := [(4, .int (zI ((i : Int) + 1))), (5, .int (zI (co 7 (k * 6 + (i : Int))))), (3, .int (zI (sumZ (fun j => if sdC co k j = sd then wtC co k j else 0) i))), (0, .ref b), (1, .int (zI k)), (2, .int (zI sd))]) rfl ?_
      refine v_goto X dX8_ofSide_51 5 (by decide) ?_
      refine v_locals [0, 2, 3, 4, 5] (L' := [(4, .int (zI ((i : Int) + 1))), (3, .int (zI (sumZ (fun j => if sdC co k j = sd then wtC co k j else 0) i))), (0, .ref b), (1, .int (zI k)), (2, .int (zI sd))]) rfl ?_
      exact V_L (L' := [(4, .int (zI ((i + 1 : Nat) : Int))), (3, .int (zI (sumZ (fun j => if sdC co k j = sd then wtC co k j else 0) (i + 1)))), (0, .ref b), (1, .int (zI k)), (2, .int (zI sd))]) (LC (vz (by omega)) (LC (vz (by first | (rw [sumZ_s, if_pos (c := sdC co k (i : Int) = sd) (by first | assumption | omega)]; rfl) | (rw [sumZ_s, if_neg (c := sdC co k (i : Int) = sd) (by first | assumption | omega)] <;> omega))) (LC rfl (LC rfl (LC rfl rfl))))) (ih_i (by omega))
    · skip
      refine v_iload_n X dX8_ofSide_38 39 rfl 2 rfl ?_
      refine v_aload_n X dX8_ofSide_39 40 rfl 3 rfl ?_
      refine v_iload_n X dX8_ofSide_40 41 rfl 4 rfl ?_
      refine v_iload X dX8_ofSide_41 43 rfl 0 rfl ?_
      refine v_rdV X hC h_co (c_X0_weightOf l E b co k (co 7 (k * 6 + (i : Int))) hO k0 k1 (by omega) (by omega)) kvX0_weightOf kiX0_weightOf kl_X8_28 rfl rfl (As := [.int (zI k), .int (zI (co 7 (k * 6 + (i : Int))))]) rfl rfl rfl dX8_ofSide_43 46 rfl ?_
      show V p l e (rmL 2 0 0) s m args below meth cd Q 6 s.heap [] 0 0 46 [(5, .int (zI (co 7 (k * 6 + (i : Int))))), (4, .int (zI (i : Int))), (3, .int (zI (sumZ (fun j => if sdC co k j = sd then wtC co k j else 0) i))), (0, .ref b), (1, .int (zI k)), (2, .int (zI sd))] [.int (zI (co 9 (k * 8 + (co 7 (k * 6 + (i : Int)))) * co 11 (co 7 (k * 6 + (i : Int))))), .int (zI (sumZ (fun j => if sdC co k j = sd then wtC co k j else 0) i))]
      have hb_6 := hO.b9 (k * 8 + (co 7 (k * 6 + (i : Int))))
      have hb_7 := hO.b11 (co 7 (k * 6 + (i : Int)))
      have hf_8 := w2_b hO (k * 8 + (co 7 (k * 6 + (i : Int)))) (co 7 (k * 6 + (i : Int)))
      refine v_iadd X dX8_ofSide_46 47 rfl ?_
      refine v_istore_n X dX8_ofSide_47 48 rfl rfl (by decide) (L' := [(3, .int (zI (sumZ (fun j => if sdC co k j = sd then wtC co k j else 0) i + (co 9 (k * 8 + (co 7 (k * 6 + (i : Int)))) * co 11 (co 7 (k * 6 + (i : Int))))))), (5, .int (zI (co 7 (k * 6 + (i : Int))))), (4, .int (zI (i : Int))), (0, .ref b), (1, .int (zI k)), (2, .int (zI sd))]) rfl ?_
      refine v_iinc X dX8_ofSide_48 51 rfl 2 rfl (by decide) (L' := [(4, .int (zI ((i : Int) + 1))), (3, .int (zI (sumZ (fun j => if sdC co k j = sd then wtC co k j else 0) i + (co 9 (k * 8 + (co 7 (k * 6 + (i : Int)))) * co 11 (co 7 (k * 6 + (i : Int))))))), (5, .int (zI (co 7 (k * 6 + (i : Int))))), (0, .ref b), (1, .int (zI k)), (2, .int (zI sd))]) rfl ?_
      refine v_goto X dX8_ofSide_51 5 (by decide) ?_
      refine v_locals [0, 1, 3, 4, 5] (L' := [(4, .int (zI ((i : Int) + 1))), (3, .int (zI (sumZ (fun j => if sdC co k j = sd then wtC co k j else 0) i + (co 9 (k * 8 + (co 7 (k * 6 + (i : Int)))) * co 11 (co 7 (k * 6 + (i : Int))))))), (0, .ref b), (1, .int (zI k)), (2, .int (zI sd))]) rfl ?_
      exact V_L (L' := [(4, .int (zI ((i + 1 : Nat) : Int))), (3, .int (zI (sumZ (fun j => if sdC co k j = sd then wtC co k j else 0) (i + 1)))), (0, .ref b), (1, .int (zI k)), (2, .int (zI sd))]) (LC (vz (by omega)) (LC (vz (by first | (rw [sumZ_s, if_pos (c := sdC co k (i : Int) = sd) (by first | assumption | omega)]; rfl) | (rw [sumZ_s, if_neg (c := sdC co k (i : Int) = sd) (by first | assumption | omega)] <;> omega))) (LC rfl (LC rfl (LC rfl rfl))))) (ih_i (by omega))
set_option maxHeartbeats 4000000 in
set_option maxRecDepth 20000 in
theorem c_X8_marginByTestimony (l : Launch) (E : Nat → Nat → Nat) (b : Nat) (co : Nat → Int → Int) (k : Int) (hO : OkC co) (k0 : 0 ≤ k) (k1 : k < 16) : Rd l yX8_marginByTestimony cX8_marginByTestimony 5 (some .int) 2 E [.ref b, .int (zI k)] (courtW E b co) (some (.int (zI (mgC co k)))) := by
  refine Rd.start (own := RX8) rfl (by decide +kernel) (Nat.le_of_ble_eq_true rfl) ?_
  intro p e s m below meth cd args Q hQ X hr hlk hC hP
  have h_co := hP
  refine v_bipush X dX8_marginByTestimony_0 2 rfl rfl ?_
  refine v_aload_n X dX8_marginByTestimony_2 3 rfl 0 rfl ?_
  refine v_iload_n X dX8_marginByTestimony_3 4 rfl 1 rfl ?_
  refine v_rdV X hC h_co (c_X0_severityIn l E b co k k0 k1) kvX0_severityIn kiX0_severityIn kl_X8_31 rfl rfl (As := [.int (zI k)]) rfl rfl rfl dX8_marginByTestimony_4 7 rfl ?_
  show V p l e (rmL 2 0 0) s m args below meth cd Q 5 s.heap [] 0 0 7 [(0, .ref b), (1, .int (zI k))] [.int (zI (co 2 k + 1)), .int (zI (-2))]
  have hb_1 := hO.b2 k
  refine v_imul X dX8_marginByTestimony_7 8 rfl ?_
  refine v_istore_n X dX8_marginByTestimony_8 9 rfl rfl (by decide) (L' := [(2, .int (zI ((-2) * (co 2 k + 1)))), (0, .ref b), (1, .int (zI k))]) rfl ?_
  refine v_iconst X dX8_marginByTestimony_9 10 rfl ?_
  refine v_istore_n X dX8_marginByTestimony_10 11 rfl rfl (by decide) (L' := [(3, .int (zI 0)), (2, .int (zI ((-2) * (co 2 k + 1)))), (0, .ref b), (1, .int (zI k))]) rfl ?_
  refine V_L (L' := [(3, .int (zI 0)), (2, .int (zI ((-2) * (co 2 k + 1) + sumZ (fun j => sdC co k j * wtC co k j) 0))), (0, .ref b), (1, .int (zI k))]) (LC rfl (LC (vz (by simp [sumZ])) (LC rfl (LC rfl rfl)))) ?_
  refine up_loop ((co 6 k).toNat) (P := fun (i : Nat) => V p l e (rmL 2 0 0) s m args below meth cd Q 5 s.heap [] 0 0 11 [(3, .int (zI (i : Int))), (2, .int (zI ((-2) * (co 2 k + 1) + sumZ (fun j => sdC co k j * wtC co k j) i))), (0, .ref b), (1, .int (zI k))] []) (fun i hi_i ih_i => ?_)
  refine v_iload_n X dX8_marginByTestimony_11 12 rfl 0 rfl ?_
  refine v_aload_n X dX8_marginByTestimony_12 13 rfl 2 rfl ?_
  refine v_getfN X hC h_co inX0 0 rfl rfl 9 (by decide) kfn_X8_9 (fun _ h => h) rfl dX8_marginByTestimony_13 16 rfl ?_
  refine v_iload_n X dX8_marginByTestimony_16 17 rfl 3 rfl ?_
  refine v_rdV X hC (PW.part h_co 11 2 (wc := rowW E (b + 11) 16 (co 6)) rfl) (c_X6_get l E (b + 11) 16 (co 6) k k0 k1 (by omega)) kvX6_get kiX6_get kl_X8_15 rfl rfl (As := [.int (zI k)]) rfl rfl rfl dX8_marginByTestimony_17 20 rfl ?_
  show V p l e (rmL 2 0 0) s m args below meth cd Q 5 s.heap [] 0 0 20 [(3, .int (zI (i : Int))), (2, .int (zI ((-2) * (co 2 k + 1) + sumZ (fun j => sdC co k j * wtC co k j) i))), (0, .ref b), (1, .int (zI k))] [.int (zI (co 6 k)), .int (zI (i : Int))]
  have hb_2 := hO.b6 k
  refine v_icmp_ge X (by omega) (by omega) dX8_marginByTestimony_20 23 55 rfl (by decide) (fun c_3 => ?_) (fun c_3 => ?_)
  · skip
    refine v_iload_n X dX8_marginByTestimony_55 56 rfl 1 rfl ?_
    subst hQ; exact v_iret0 X hr hlk dX8_marginByTestimony_56 (by rw [show i = (co 6 k).toNat by omega]; rfl)
  · skip
    refine v_aload_n X dX8_marginByTestimony_23 24 rfl 2 rfl ?_
    refine v_iload_n X dX8_marginByTestimony_24 25 rfl 3 rfl ?_
    refine v_iload_n X dX8_marginByTestimony_25 26 rfl 0 rfl ?_
    refine v_rdV X hC h_co (c_X0_witnessHeardAt l E b co k (i : Int) k0 k1 (by omega) (by omega)) kvX0_witnessHeardAt kiX0_witnessHeardAt kl_X8_21 rfl rfl (As := [.int (zI k), .int (zI (i : Int))]) rfl rfl rfl dX8_marginByTestimony_26 29 rfl ?_
    show V p l e (rmL 2 0 0) s m args below meth cd Q 5 s.heap [] 0 0 29 [(3, .int (zI (i : Int))), (2, .int (zI ((-2) * (co 2 k + 1) + sumZ (fun j => sdC co k j * wtC co k j) i))), (0, .ref b), (1, .int (zI k))] [.int (zI (co 7 (k * 6 + (i : Int))))]
    have hb_4 := hO.b7 (k * 6 + (i : Int))
    refine v_istore X dX8_marginByTestimony_29 31 rfl (by decide) (L' := [(4, .int (zI (co 7 (k * 6 + (i : Int))))), (3, .int (zI (i : Int))), (2, .int (zI ((-2) * (co 2 k + 1) + sumZ (fun j => sdC co k j * wtC co k j) i))), (0, .ref b), (1, .int (zI k))]) rfl ?_
    refine v_iload_n X dX8_marginByTestimony_31 32 rfl 2 rfl ?_
    refine v_aload_n X dX8_marginByTestimony_32 33 rfl 3 rfl ?_
    refine v_iload_n X dX8_marginByTestimony_33 34 rfl 4 rfl ?_
    refine v_iload X dX8_marginByTestimony_34 36 rfl 0 rfl ?_
    refine v_rdV X hC h_co (c_X0_sideOf l E b co k (co 7 (k * 6 + (i : Int))) k0 k1 (by omega) (by omega)) kvX0_sideOf kiX0_sideOf kl_X8_25 rfl rfl (As := [.int (zI k), .int (zI (co 7 (k * 6 + (i : Int))))]) rfl rfl rfl dX8_marginByTestimony_36 39 rfl ?_
    show V p l e (rmL 2 0 0) s m args below meth cd Q 5 s.heap [] 0 0 39 [(4, .int (zI (co 7 (k * 6 + (i : Int))))), (3, .int (zI (i : Int))), (2, .int (zI ((-2) * (co 2 k + 1) + sumZ (fun j => sdC co k j * wtC co k j) i))), (0, .ref b), (1, .int (zI k))] [.int (zI (co 8 (k * 8 + (co 7 (k * 6 + (i : Int)))))), .int (zI ((-2) * (co 2 k + 1) + sumZ (fun j => sdC co k j * wtC co k j) i))]
    have hb_5 := hO.b8 (k * 8 + (co 7 (k * 6 + (i : Int))))
    refine v_aload_n X dX8_marginByTestimony_39 40 rfl 3 rfl ?_
    refine v_iload_n X dX8_marginByTestimony_40 41 rfl 4 rfl ?_
    refine v_iload X dX8_marginByTestimony_41 43 rfl 0 rfl ?_
    refine v_rdV X hC h_co (c_X0_weightOf l E b co k (co 7 (k * 6 + (i : Int))) hO k0 k1 (by omega) (by omega)) kvX0_weightOf kiX0_weightOf kl_X8_28 rfl rfl (As := [.int (zI k), .int (zI (co 7 (k * 6 + (i : Int))))]) rfl rfl rfl dX8_marginByTestimony_43 46 rfl ?_
    show V p l e (rmL 2 0 0) s m args below meth cd Q 5 s.heap [] 0 0 46 [(4, .int (zI (co 7 (k * 6 + (i : Int))))), (3, .int (zI (i : Int))), (2, .int (zI ((-2) * (co 2 k + 1) + sumZ (fun j => sdC co k j * wtC co k j) i))), (0, .ref b), (1, .int (zI k))] [.int (zI (co 9 (k * 8 + (co 7 (k * 6 + (i : Int)))) * co 11 (co 7 (k * 6 + (i : Int))))), .int (zI (co 8 (k * 8 + (co 7 (k * 6 + (i : Int)))))), .int (zI ((-2) * (co 2 k + 1) + sumZ (fun j => sdC co k j * wtC co k j) i))]
    have hb_6 := hO.b9 (k * 8 + (co 7 (k * 6 + (i : Int))))
    have hb_7 := hO.b11 (co 7 (k * 6 + (i : Int)))
    have hf_8 := w2_b hO (k * 8 + (co 7 (k * 6 + (i : Int)))) (co 7 (k * 6 + (i : Int)))
    refine v_imul X dX8_marginByTestimony_46 47 rfl ?_
    refine v_iadd X dX8_marginByTestimony_47 48 rfl ?_
    refine v_istore_n X dX8_marginByTestimony_48 49 rfl rfl (by decide) (L' := [(2, .int (zI ((-2) * (co 2 k + 1) + sumZ (fun j => sdC co k j * wtC co k j) i + ((co 8 (k * 8 + (co 7 (k * 6 + (i : Int))))) * (co 9 (k * 8 + (co 7 (k * 6 + (i : Int)))) * co 11 (co 7 (k * 6 + (i : Int)))))))), (4, .int (zI (co 7 (k * 6 + (i : Int))))), (3, .int (zI (i : Int))), (0, .ref b), (1, .int (zI k))]) rfl ?_
    refine v_iinc X dX8_marginByTestimony_49 52 rfl 2 rfl (by decide) (L' := [(3, .int (zI ((i : Int) + 1))), (2, .int (zI ((-2) * (co 2 k + 1) + sumZ (fun j => sdC co k j * wtC co k j) i + ((co 8 (k * 8 + (co 7 (k * 6 + (i : Int))))) * (co 9 (k * 8 + (co 7 (k * 6 + (i : Int)))) * co 11 (co 7 (k * 6 + (i : Int)))))))), (4, .int (zI (co 7 (k * 6 + (i : Int))))), (0, .ref b), (1, .int (zI k))]) rfl ?_
    refine v_goto X dX8_marginByTestimony_52 11 (by decide) ?_
    refine v_locals [0, 1, 3, 4] (L' := [(3, .int (zI ((i : Int) + 1))), (2, .int (zI ((-2) * (co 2 k + 1) + sumZ (fun j => sdC co k j * wtC co k j) i + ((co 8 (k * 8 + (co 7 (k * 6 + (i : Int))))) * (co 9 (k * 8 + (co 7 (k * 6 + (i : Int)))) * co 11 (co 7 (k * 6 + (i : Int)))))))), (0, .ref b), (1, .int (zI k))]) rfl ?_
    exact V_L (L' := [(3, .int (zI ((i + 1 : Nat) : Int))), (2, .int (zI ((-2) * (co 2 k + 1) + sumZ (fun j => sdC co k j * wtC co k j) (i + 1)))), (0, .ref b), (1, .int (zI k))]) (LC (vz (by omega)) (LC (vz (by rw [sumZ_s, ← Int.add_assoc]; rfl)) (LC rfl (LC rfl rfl)))) (ih_i (by omega))
set_option maxHeartbeats 4000000 in
set_option maxRecDepth 20000 in
theorem c_X8_signedStrengthsAt (l : Launch) (E : Nat → Nat → Nat) (b : Nat) (co : Nat → Int → Int) (k : Int) (lv : Int) (hO : OkC co) (k0 : 0 ≤ k) (k1 : k < 16) (hlv : 0 ≤ lv ∧ lv ≤ 9) : Rd l yX8_signedStrengthsAt cX8_signedStrengthsAt 6 (some .int) 2 E [.int (zI lv), .ref b, .int (zI k)] (courtW E b co) (some (.int (zI (sgC co lv k)))) := by
  refine Rd.start (own := RX8) rfl (by decide +kernel) (Nat.le_of_ble_eq_true rfl) ?_
  intro p e s m below meth cd args Q hQ X hr hlk hC hP
  have h_co := hP
  refine v_iconst X dX8_signedStrengthsAt_0 1 rfl ?_
  refine v_istore_n X dX8_signedStrengthsAt_1 2 rfl rfl (by decide) (L' := [(3, .int (zI 0)), (0, .int (zI lv)), (1, .ref b), (2, .int (zI k))]) rfl ?_
  refine v_iconst X dX8_signedStrengthsAt_2 3 rfl ?_
  refine v_istore X dX8_signedStrengthsAt_3 5 rfl (by decide) (L' := [(4, .int (zI 0)), (3, .int (zI 0)), (0, .int (zI lv)), (1, .ref b), (2, .int (zI k))]) rfl ?_
  refine V_L (L' := [(4, .int (zI 0)), (3, .int (zI (sumZ (fun j => if co 11 (co 7 (k * 6 + j)) = lv then sdC co k j * co 9 (k * 8 + co 7 (k * 6 + j)) else 0) 0))), (0, .int (zI lv)), (1, .ref b), (2, .int (zI k))]) (LC rfl (LC (vz (by rfl)) (LC rfl (LC rfl (LC rfl rfl))))) ?_
  refine up_loop ((co 6 k).toNat) (P := fun (i : Nat) => V p l e (rmL 2 0 0) s m args below meth cd Q 6 s.heap [] 0 0 5 [(4, .int (zI (i : Int))), (3, .int (zI (sumZ (fun j => if co 11 (co 7 (k * 6 + j)) = lv then sdC co k j * co 9 (k * 8 + co 7 (k * 6 + j)) else 0) i))), (0, .int (zI lv)), (1, .ref b), (2, .int (zI k))] []) (fun i hi_i ih_i => ?_)
  refine v_iload X dX8_signedStrengthsAt_5 7 rfl 0 rfl ?_
  refine v_aload_n X dX8_signedStrengthsAt_7 8 rfl 3 rfl ?_
  refine v_getfN X hC h_co inX0 0 rfl rfl 9 (by decide) kfn_X8_9 (fun _ h => h) rfl dX8_signedStrengthsAt_8 11 rfl ?_
  refine v_iload_n X dX8_signedStrengthsAt_11 12 rfl 4 rfl ?_
  refine v_rdV X hC (PW.part h_co 11 2 (wc := rowW E (b + 11) 16 (co 6)) rfl) (c_X6_get l E (b + 11) 16 (co 6) k k0 k1 (by omega)) kvX6_get kiX6_get kl_X8_15 rfl rfl (As := [.int (zI k)]) rfl rfl rfl dX8_signedStrengthsAt_12 15 rfl ?_
  show V p l e (rmL 2 0 0) s m args below meth cd Q 6 s.heap [] 0 0 15 [(4, .int (zI (i : Int))), (3, .int (zI (sumZ (fun j => if co 11 (co 7 (k * 6 + j)) = lv then sdC co k j * co 9 (k * 8 + co 7 (k * 6 + j)) else 0) i))), (0, .int (zI lv)), (1, .ref b), (2, .int (zI k))] [.int (zI (co 6 k)), .int (zI (i : Int))]
  have hb_1 := hO.b6 k
  refine v_icmp_ge X (by omega) (by omega) dX8_signedStrengthsAt_15 18 64 rfl (by decide) (fun c_2 => ?_) (fun c_2 => ?_)
  · skip
    refine v_iload_n X dX8_signedStrengthsAt_64 65 rfl 1 rfl ?_
    subst hQ; exact v_iret0 X hr hlk dX8_signedStrengthsAt_65 (by rw [show i = (co 6 k).toNat by omega]; rfl)
  · skip
    refine v_aload_n X dX8_signedStrengthsAt_18 19 rfl 3 rfl ?_
    refine v_iload_n X dX8_signedStrengthsAt_19 20 rfl 4 rfl ?_
    refine v_iload X dX8_signedStrengthsAt_20 22 rfl 0 rfl ?_
    refine v_rdV X hC h_co (c_X0_witnessHeardAt l E b co k (i : Int) k0 k1 (by omega) (by omega)) kvX0_witnessHeardAt kiX0_witnessHeardAt kl_X8_21 rfl rfl (As := [.int (zI k), .int (zI (i : Int))]) rfl rfl rfl dX8_signedStrengthsAt_22 25 rfl ?_
    show V p l e (rmL 2 0 0) s m args below meth cd Q 6 s.heap [] 0 0 25 [(4, .int (zI (i : Int))), (3, .int (zI (sumZ (fun j => if co 11 (co 7 (k * 6 + j)) = lv then sdC co k j * co 9 (k * 8 + co 7 (k * 6 + j)) else 0) i))), (0, .int (zI lv)), (1, .ref b), (2, .int (zI k))] [.int (zI (co 7 (k * 6 + (i : Int))))]
    have hb_3 := hO.b7 (k * 6 + (i : Int))
    refine v_istore X dX8_signedStrengthsAt_25 27 rfl (by decide) (L' := [(5, .int (zI (co 7 (k * 6 + (i : Int))))), (4, .int (zI (i : Int))), (3, .int (zI (sumZ (fun j => if co 11 (co 7 (k * 6 + j)) = lv then sdC co k j * co 9 (k * 8 + co 7 (k * 6 + j)) else 0) i))), (0, .int (zI lv)), (1, .ref b), (2, .int (zI k))]) rfl ?_
    refine v_aload_n X dX8_signedStrengthsAt_27 28 rfl 4 rfl ?_
    refine v_getfN X hC h_co inX0 0 rfl rfl 14 (by decide) kfn_X8_40 (fun _ h => h) rfl dX8_signedStrengthsAt_28 31 rfl ?_
    refine v_iload X dX8_signedStrengthsAt_31 33 rfl 0 rfl ?_
    refine v_rdV X hC (PW.part h_co 21 2 (wc := rowW E (b + 21) 8 (co 11)) rfl) (c_X6_get l E (b + 21) 8 (co 11) (co 7 (k * 6 + (i : Int))) (by omega) (by omega) (by omega)) kvX6_get kiX6_get kl_X8_15 rfl rfl (As := [.int (zI (co 7 (k * 6 + (i : Int))))]) rfl rfl rfl dX8_signedStrengthsAt_33 36 rfl ?_
    show V p l e (rmL 2 0 0) s m args below meth cd Q 6 s.heap [] 0 0 36 [(5, .int (zI (co 7 (k * 6 + (i : Int))))), (4, .int (zI (i : Int))), (3, .int (zI (sumZ (fun j => if co 11 (co 7 (k * 6 + j)) = lv then sdC co k j * co 9 (k * 8 + co 7 (k * 6 + j)) else 0) i))), (0, .int (zI lv)), (1, .ref b), (2, .int (zI k))] [.int (zI (co 11 (co 7 (k * 6 + (i : Int)))))]
    have hb_4 := hO.b11 (co 7 (k * 6 + (i : Int)))
    refine v_iload_n X dX8_signedStrengthsAt_36 37 rfl 3 rfl ?_
    refine v_icmp_ne X (by omega) (by omega) dX8_signedStrengthsAt_37 40 58 rfl (by decide) (fun c_5 => ?_) (fun c_5 => ?_)
    · skip
      refine v_iinc X dX8_signedStrengthsAt_58 61 rfl 1 rfl (by decide) (L' := [(4, .int (zI ((i : Int) + 1))), (5, .int (zI (co 7 (k * 6 + (i : Int))))), (3, .int (zI (sumZ (fun j => if co 11 (co 7 (k * 6 + j)) = lv then sdC co k j * co 9 (k * 8 + co 7 (k * 6 + j)) else 0) i))), (0, .int (zI lv)), (1, .ref b), (2, .int (zI k))]) rfl ?_
      refine v_goto X dX8_signedStrengthsAt_61 5 (by decide) ?_
      refine v_locals [0, 2, 3, 4, 5] (L' := [(4, .int (zI ((i : Int) + 1))), (3, .int (zI (sumZ (fun j => if co 11 (co 7 (k * 6 + j)) = lv then sdC co k j * co 9 (k * 8 + co 7 (k * 6 + j)) else 0) i))), (0, .int (zI lv)), (1, .ref b), (2, .int (zI k))]) rfl ?_
      exact V_L (L' := [(4, .int (zI ((i + 1 : Nat) : Int))), (3, .int (zI (sumZ (fun j => if co 11 (co 7 (k * 6 + j)) = lv then sdC co k j * co 9 (k * 8 + co 7 (k * 6 + j)) else 0) (i + 1)))), (0, .int (zI lv)), (1, .ref b), (2, .int (zI k))]) (LC (vz (by omega)) (LC (vz (by first | (rw [sumZ_s, if_pos (by first | assumption | omega)]; rfl) | (rw [sumZ_s, if_neg (by first | assumption | omega)] <;> omega))) (LC rfl (LC rfl (LC rfl rfl))))) (ih_i (by omega))
    · skip
      refine v_iload_n X dX8_signedStrengthsAt_40 41 rfl 2 rfl ?_
      refine v_aload_n X dX8_signedStrengthsAt_41 42 rfl 4 rfl ?_
      refine v_iload_n X dX8_signedStrengthsAt_42 43 rfl 5 rfl ?_
      refine v_iload X dX8_signedStrengthsAt_43 45 rfl 0 rfl ?_
      refine v_rdV X hC h_co (c_X0_sideOf l E b co k (co 7 (k * 6 + (i : Int))) k0 k1 (by omega) (by omega)) kvX0_sideOf kiX0_sideOf kl_X8_25 rfl rfl (As := [.int (zI k), .int (zI (co 7 (k * 6 + (i : Int))))]) rfl rfl rfl dX8_signedStrengthsAt_45 48 rfl ?_
      show V p l e (rmL 2 0 0) s m args below meth cd Q 6 s.heap [] 0 0 48 [(5, .int (zI (co 7 (k * 6 + (i : Int))))), (4, .int (zI (i : Int))), (3, .int (zI (sumZ (fun j => if co 11 (co 7 (k * 6 + j)) = lv then sdC co k j * co 9 (k * 8 + co 7 (k * 6 + j)) else 0) i))), (0, .int (zI lv)), (1, .ref b), (2, .int (zI k))] [.int (zI (co 8 (k * 8 + (co 7 (k * 6 + (i : Int)))))), .int (zI (sumZ (fun j => if co 11 (co 7 (k * 6 + j)) = lv then sdC co k j * co 9 (k * 8 + co 7 (k * 6 + j)) else 0) i))]
      have hb_6 := hO.b8 (k * 8 + (co 7 (k * 6 + (i : Int))))
      refine v_aload_n X dX8_signedStrengthsAt_48 49 rfl 4 rfl ?_
      refine v_iload_n X dX8_signedStrengthsAt_49 50 rfl 5 rfl ?_
      refine v_iload X dX8_signedStrengthsAt_50 52 rfl 0 rfl ?_
      refine v_rdV X hC h_co (c_X0_strengthOf l E b co k (co 7 (k * 6 + (i : Int))) k0 k1 (by omega) (by omega)) kvX0_strengthOf kiX0_strengthOf kl_X8_43 rfl rfl (As := [.int (zI k), .int (zI (co 7 (k * 6 + (i : Int))))]) rfl rfl rfl dX8_signedStrengthsAt_52 55 rfl ?_
      show V p l e (rmL 2 0 0) s m args below meth cd Q 6 s.heap [] 0 0 55 [(5, .int (zI (co 7 (k * 6 + (i : Int))))), (4, .int (zI (i : Int))), (3, .int (zI (sumZ (fun j => if co 11 (co 7 (k * 6 + j)) = lv then sdC co k j * co 9 (k * 8 + co 7 (k * 6 + j)) else 0) i))), (0, .int (zI lv)), (1, .ref b), (2, .int (zI k))] [.int (zI (co 9 (k * 8 + (co 7 (k * 6 + (i : Int)))))), .int (zI (co 8 (k * 8 + (co 7 (k * 6 + (i : Int)))))), .int (zI (sumZ (fun j => if co 11 (co 7 (k * 6 + j)) = lv then sdC co k j * co 9 (k * 8 + co 7 (k * 6 + j)) else 0) i))]
      have hb_7 := hO.b9 (k * 8 + (co 7 (k * 6 + (i : Int))))
      refine v_imul X dX8_signedStrengthsAt_55 56 rfl ?_
      refine v_iadd X dX8_signedStrengthsAt_56 57 rfl ?_
      refine v_istore_n X dX8_signedStrengthsAt_57 58 rfl rfl (by decide) (L' := [(3, .int (zI (sumZ (fun j => if co 11 (co 7 (k * 6 + j)) = lv then sdC co k j * co 9 (k * 8 + co 7 (k * 6 + j)) else 0) i + ((co 8 (k * 8 + (co 7 (k * 6 + (i : Int))))) * (co 9 (k * 8 + (co 7 (k * 6 + (i : Int))))))))), (5, .int (zI (co 7 (k * 6 + (i : Int))))), (4, .int (zI (i : Int))), (0, .int (zI lv)), (1, .ref b), (2, .int (zI k))]) rfl ?_
      refine v_iinc X dX8_signedStrengthsAt_58 61 rfl 2 rfl (by decide) (L' := [(4, .int (zI ((i : Int) + 1))), (3, .int (zI (sumZ (fun j => if co 11 (co 7 (k * 6 + j)) = lv then sdC co k j * co 9 (k * 8 + co 7 (k * 6 + j)) else 0) i + ((co 8 (k * 8 + (co 7 (k * 6 + (i : Int))))) * (co 9 (k * 8 + (co 7 (k * 6 + (i : Int))))))))), (5, .int (zI (co 7 (k * 6 + (i : Int))))), (0, .int (zI lv)), (1, .ref b), (2, .int (zI k))]) rfl ?_
      refine v_goto X dX8_signedStrengthsAt_61 5 (by decide) ?_
      refine v_locals [0, 1, 3, 4, 5] (L' := [(4, .int (zI ((i : Int) + 1))), (3, .int (zI (sumZ (fun j => if co 11 (co 7 (k * 6 + j)) = lv then sdC co k j * co 9 (k * 8 + co 7 (k * 6 + j)) else 0) i + ((co 8 (k * 8 + (co 7 (k * 6 + (i : Int))))) * (co 9 (k * 8 + (co 7 (k * 6 + (i : Int))))))))), (0, .int (zI lv)), (1, .ref b), (2, .int (zI k))]) rfl ?_
      exact V_L (L' := [(4, .int (zI ((i + 1 : Nat) : Int))), (3, .int (zI (sumZ (fun j => if co 11 (co 7 (k * 6 + j)) = lv then sdC co k j * co 9 (k * 8 + co 7 (k * 6 + j)) else 0) (i + 1)))), (0, .int (zI lv)), (1, .ref b), (2, .int (zI k))]) (LC (vz (by omega)) (LC (vz (by first | (rw [sumZ_s, if_pos (by first | assumption | omega)]; rfl) | (rw [sumZ_s, if_neg (by first | assumption | omega)] <;> omega))) (LC rfl (LC rfl (LC rfl rfl))))) (ih_i (by omega))
set_option maxHeartbeats 4000000 in
set_option maxRecDepth 20000 in
theorem c_X8_marginByLevel (l : Launch) (E : Nat → Nat → Nat) (b : Nat) (co : Nat → Int → Int) (k : Int) (hO : OkC co) (k0 : 0 ≤ k) (k1 : k < 16) : Rd l yX8_marginByLevel cX8_marginByLevel 4 (some .int) 3 E [.ref b, .int (zI k)] (courtW E b co) (some (.int (zI (mlC co k)))) := by
  refine Rd.start (own := RX8) rfl (by decide +kernel) (Nat.le_of_ble_eq_true rfl) ?_
  intro p e s m below meth cd args Q hQ X hr hlk hC hP
  have h_co := hP
  refine v_bipush X dX8_marginByLevel_0 2 rfl rfl ?_
  refine v_aload_n X dX8_marginByLevel_2 3 rfl 0 rfl ?_
  refine v_iload_n X dX8_marginByLevel_3 4 rfl 1 rfl ?_
  refine v_rdV X hC h_co (c_X0_severityIn l E b co k k0 k1) kvX0_severityIn kiX0_severityIn kl_X8_31 rfl rfl (As := [.int (zI k)]) rfl rfl rfl dX8_marginByLevel_4 7 rfl ?_
  show V p l e (rmL 3 0 0) s m args below meth cd Q 4 s.heap [] 0 0 7 [(0, .ref b), (1, .int (zI k))] [.int (zI (co 2 k + 1)), .int (zI (-2))]
  have hb_1 := hO.b2 k
  refine v_imul X dX8_marginByLevel_7 8 rfl ?_
  refine v_istore_n X dX8_marginByLevel_8 9 rfl rfl (by decide) (L' := [(2, .int (zI ((-2) * (co 2 k + 1)))), (0, .ref b), (1, .int (zI k))]) rfl ?_
  refine v_iconst X dX8_marginByLevel_9 10 rfl ?_
  refine v_istore_n X dX8_marginByLevel_10 11 rfl rfl (by decide) (L' := [(3, .int (zI 0)), (2, .int (zI ((-2) * (co 2 k + 1)))), (0, .ref b), (1, .int (zI k))]) rfl ?_
  refine V_L (L' := [(3, .int (zI 0)), (2, .int (zI ((-2) * (co 2 k + 1) + sumZ (fun lv => lv * sgC co lv k) 0))), (0, .ref b), (1, .int (zI k))]) (LC rfl (LC (vz (by simp [sumZ])) (LC rfl (LC rfl rfl)))) ?_
  refine up_loop 10 (P := fun (i : Nat) => V p l e (rmL 3 0 0) s m args below meth cd Q 4 s.heap [] 0 0 11 [(3, .int (zI (i : Int))), (2, .int (zI ((-2) * (co 2 k + 1) + sumZ (fun lv => lv * sgC co lv k) i))), (0, .ref b), (1, .int (zI k))] []) (fun i hi_i ih_i => ?_)
  refine v_iload_n X dX8_marginByLevel_11 12 rfl 0 rfl ?_
  refine v_bipush X dX8_marginByLevel_12 14 rfl rfl ?_
  refine v_icmp_gt X (by omega) (by omega) dX8_marginByLevel_14 17 34 rfl (by decide) (fun c_2 => ?_) (fun c_2 => ?_)
  · skip
    refine v_iload_n X dX8_marginByLevel_34 35 rfl 1 rfl ?_
    subst hQ; exact v_iret0 X hr hlk dX8_marginByLevel_35 (by rw [show i = 10 by omega]; rfl)
  · skip
    refine v_iload_n X dX8_marginByLevel_17 18 rfl 1 rfl ?_
    refine v_iload_n X dX8_marginByLevel_18 19 rfl 0 rfl ?_
    refine v_iload_n X dX8_marginByLevel_19 20 rfl 0 rfl ?_
    refine v_aload_n X dX8_marginByLevel_20 21 rfl 2 rfl ?_
    refine v_iload_n X dX8_marginByLevel_21 22 rfl 3 rfl ?_
    refine v_rdS X hC h_co (c_X8_signedStrengthsAt l E b co k (i : Int) hO k0 k1 (by omega)) kvX8_signedStrengthsAt ksX8_signedStrengthsAt kl_X8_34 (As := [.int (zI (i : Int)), .ref b, .int (zI k)]) rfl rfl rfl dX8_marginByLevel_22 25 rfl ?_
    show V p l e (rmL 3 0 0) s m args below meth cd Q 4 s.heap [] 0 0 25 [(3, .int (zI (i : Int))), (2, .int (zI ((-2) * (co 2 k + 1) + sumZ (fun lv => lv * sgC co lv k) i))), (0, .ref b), (1, .int (zI k))] [.int (zI (sgC co (i : Int) k)), .int (zI (i : Int)), .int (zI ((-2) * (co 2 k + 1) + sumZ (fun lv => lv * sgC co lv k) i))]
    have hf_3 := sgC_b hO (i : Int) k
    refine v_imul X dX8_marginByLevel_25 26 rfl ?_
    refine v_iadd X dX8_marginByLevel_26 27 rfl ?_
    refine v_istore_n X dX8_marginByLevel_27 28 rfl rfl (by decide) (L' := [(2, .int (zI ((-2) * (co 2 k + 1) + sumZ (fun lv => lv * sgC co lv k) i + (i : Int) * sgC co (i : Int) k))), (3, .int (zI (i : Int))), (0, .ref b), (1, .int (zI k))]) rfl ?_
    refine v_iinc X dX8_marginByLevel_28 31 rfl 1 rfl (by decide) (L' := [(3, .int (zI ((i : Int) + 1))), (2, .int (zI ((-2) * (co 2 k + 1) + sumZ (fun lv => lv * sgC co lv k) i + (i : Int) * sgC co (i : Int) k))), (0, .ref b), (1, .int (zI k))]) rfl ?_
    refine v_goto X dX8_marginByLevel_31 11 (by decide) ?_
    exact V_L (L' := [(3, .int (zI ((i + 1 : Nat) : Int))), (2, .int (zI ((-2) * (co 2 k + 1) + sumZ (fun lv => lv * sgC co lv k) (i + 1)))), (0, .ref b), (1, .int (zI k))]) (LC (vz (by omega)) (LC (vz (by rw [sumZ_s, ← Int.add_assoc])) (LC rfl (LC rfl rfl)))) (ih_i (by omega))
set_option maxHeartbeats 4000000 in
set_option maxRecDepth 20000 in
theorem c_X8_heaviestIn (l : Launch) (E : Nat → Nat → Nat) (b : Nat) (co : Nat → Int → Int) (k : Int) (hO : OkC co) (k0 : 0 ≤ k) (k1 : k < 16) (hk : 0 < co 6 k) : Rd l yX8_heaviestIn cX8_heaviestIn 5 (some .int) 2 E [.ref b, .int (zI k)] (courtW E b co) (some (.int (zI (co 7 (k * 6 + amx (wtC co k) (co 6 k).toNat))))) := by
  refine Rd.start (own := RX8) rfl (by decide +kernel) (Nat.le_of_ble_eq_true rfl) ?_
  intro p e s m below meth cd args Q hQ X hr hlk hC hP
  have h_co := hP
  refine v_aload_n X dX8_heaviestIn_0 1 rfl 0 rfl ?_
  refine v_iload_n X dX8_heaviestIn_1 2 rfl 1 rfl ?_
  refine v_iconst X dX8_heaviestIn_2 3 rfl ?_
  refine v_rdV X hC h_co (c_X0_witnessHeardAt l E b co k 0 k0 k1 (by omega) (by omega)) kvX0_witnessHeardAt kiX0_witnessHeardAt kl_X8_21 rfl rfl (As := [.int (zI k), .int (zI 0)]) rfl rfl rfl dX8_heaviestIn_3 6 rfl ?_
  show V p l e (rmL 2 0 0) s m args below meth cd Q 5 s.heap [] 0 0 6 [(0, .ref b), (1, .int (zI k))] [.int (zI (co 7 (k * 6 + 0)))]
  have hb_1 := hO.b7 (k * 6 + 0)
  refine v_istore_n X dX8_heaviestIn_6 7 rfl rfl (by decide) (L' := [(2, .int (zI (co 7 (k * 6 + 0)))), (0, .ref b), (1, .int (zI k))]) rfl ?_
  refine v_iconst X dX8_heaviestIn_7 8 rfl ?_
  refine v_istore_n X dX8_heaviestIn_8 9 rfl rfl (by decide) (L' := [(3, .int (zI 1)), (2, .int (zI (co 7 (k * 6 + 0)))), (0, .ref b), (1, .int (zI k))]) rfl ?_
  refine V_L (L' := [(3, .int (zI (0 + 1))), (2, .int (zI (co 7 (k * 6 + amx (wtC co k) (0 + 1))))), (0, .ref b), (1, .int (zI k))]) (LC (vz (by rfl)) (LC (vz (by simp [amx])) (LC rfl (LC rfl rfl)))) ?_
  refine up_loop ((co 6 k).toNat - 1) (P := fun (i : Nat) => V p l e (rmL 2 0 0) s m args below meth cd Q 5 s.heap [] 0 0 9 [(3, .int (zI ((i : Int) + 1))), (2, .int (zI (co 7 (k * 6 + amx (wtC co k) (i + 1))))), (0, .ref b), (1, .int (zI k))] []) (fun i hi_i ih_i => ?_)
  have hbx := amx_b (wtC co k) (i + 1)
  have hb6 := hO.b6 k
  refine v_iload_n X dX8_heaviestIn_9 10 rfl 0 rfl ?_
  refine v_aload_n X dX8_heaviestIn_10 11 rfl 2 rfl ?_
  refine v_getfN X hC h_co inX0 0 rfl rfl 9 (by decide) kfn_X8_9 (fun _ h => h) rfl dX8_heaviestIn_11 14 rfl ?_
  refine v_iload_n X dX8_heaviestIn_14 15 rfl 3 rfl ?_
  refine v_rdV X hC (PW.part h_co 11 2 (wc := rowW E (b + 11) 16 (co 6)) rfl) (c_X6_get l E (b + 11) 16 (co 6) k k0 k1 (by omega)) kvX6_get kiX6_get kl_X8_15 rfl rfl (As := [.int (zI k)]) rfl rfl rfl dX8_heaviestIn_15 18 rfl ?_
  show V p l e (rmL 2 0 0) s m args below meth cd Q 5 s.heap [] 0 0 18 [(3, .int (zI ((i : Int) + 1))), (2, .int (zI (co 7 (k * 6 + amx (wtC co k) (i + 1))))), (0, .ref b), (1, .int (zI k))] [.int (zI (co 6 k)), .int (zI ((i : Int) + 1))]
  have hb_2 := hO.b6 k
  refine v_icmp_ge X (by omega) (by omega) dX8_heaviestIn_18 21 54 rfl (by decide) (fun c_3 => ?_) (fun c_3 => ?_)
  · skip
    refine v_iload_n X dX8_heaviestIn_54 55 rfl 1 rfl ?_
    subst hQ; exact v_iret0 X hr hlk dX8_heaviestIn_55 (by rw [show i + 1 = (co 6 k).toNat by omega])
  · skip
    refine v_aload_n X dX8_heaviestIn_21 22 rfl 2 rfl ?_
    refine v_iload_n X dX8_heaviestIn_22 23 rfl 3 rfl ?_
    refine v_iload_n X dX8_heaviestIn_23 24 rfl 0 rfl ?_
    refine v_rdV X hC h_co (c_X0_witnessHeardAt l E b co k ((i : Int) + 1) k0 k1 (by omega) (by omega)) kvX0_witnessHeardAt kiX0_witnessHeardAt kl_X8_21 rfl rfl (As := [.int (zI k), .int (zI ((i : Int) + 1))]) rfl rfl rfl dX8_heaviestIn_24 27 rfl ?_
    show V p l e (rmL 2 0 0) s m args below meth cd Q 5 s.heap [] 0 0 27 [(3, .int (zI ((i : Int) + 1))), (2, .int (zI (co 7 (k * 6 + amx (wtC co k) (i + 1))))), (0, .ref b), (1, .int (zI k))] [.int (zI (co 7 (k * 6 + ((i : Int) + 1))))]
    have hb_4 := hO.b7 (k * 6 + ((i : Int) + 1))
    refine v_istore X dX8_heaviestIn_27 29 rfl (by decide) (L' := [(4, .int (zI (co 7 (k * 6 + ((i : Int) + 1))))), (3, .int (zI ((i : Int) + 1))), (2, .int (zI (co 7 (k * 6 + amx (wtC co k) (i + 1))))), (0, .ref b), (1, .int (zI k))]) rfl ?_
    refine v_aload_n X dX8_heaviestIn_29 30 rfl 3 rfl ?_
    refine v_iload_n X dX8_heaviestIn_30 31 rfl 4 rfl ?_
    refine v_iload X dX8_heaviestIn_31 33 rfl 0 rfl ?_
    refine v_rdV X hC h_co (c_X0_weightOf l E b co k (co 7 (k * 6 + ((i : Int) + 1))) hO k0 k1 (by omega) (by omega)) kvX0_weightOf kiX0_weightOf kl_X8_28 rfl rfl (As := [.int (zI k), .int (zI (co 7 (k * 6 + ((i : Int) + 1))))]) rfl rfl rfl dX8_heaviestIn_33 36 rfl ?_
    show V p l e (rmL 2 0 0) s m args below meth cd Q 5 s.heap [] 0 0 36 [(4, .int (zI (co 7 (k * 6 + ((i : Int) + 1))))), (3, .int (zI ((i : Int) + 1))), (2, .int (zI (co 7 (k * 6 + amx (wtC co k) (i + 1))))), (0, .ref b), (1, .int (zI k))] [.int (zI (co 9 (k * 8 + (co 7 (k * 6 + ((i : Int) + 1)))) * co 11 (co 7 (k * 6 + ((i : Int) + 1)))))]
    have hb_5 := hO.b9 (k * 8 + (co 7 (k * 6 + ((i : Int) + 1))))
    have hb_6 := hO.b11 (co 7 (k * 6 + ((i : Int) + 1)))
    have hf_7 := w2_b hO (k * 8 + (co 7 (k * 6 + ((i : Int) + 1)))) (co 7 (k * 6 + ((i : Int) + 1)))
    refine v_aload_n X dX8_heaviestIn_36 37 rfl 3 rfl ?_
    refine v_iload_n X dX8_heaviestIn_37 38 rfl 4 rfl ?_
    refine v_iload_n X dX8_heaviestIn_38 39 rfl 2 rfl ?_
    have hb_8 := hO.b7 (k * 6 + amx (wtC co k) (i + 1))
    refine v_rdV X hC h_co (c_X0_weightOf l E b co k (co 7 (k * 6 + amx (wtC co k) (i + 1))) hO k0 k1 (by omega) (by omega)) kvX0_weightOf kiX0_weightOf kl_X8_28 rfl rfl (As := [.int (zI k), .int (zI (co 7 (k * 6 + amx (wtC co k) (i + 1))))]) rfl rfl rfl dX8_heaviestIn_39 42 rfl ?_
    show V p l e (rmL 2 0 0) s m args below meth cd Q 5 s.heap [] 0 0 42 [(4, .int (zI (co 7 (k * 6 + ((i : Int) + 1))))), (3, .int (zI ((i : Int) + 1))), (2, .int (zI (co 7 (k * 6 + amx (wtC co k) (i + 1))))), (0, .ref b), (1, .int (zI k))] [.int (zI (co 9 (k * 8 + (co 7 (k * 6 + amx (wtC co k) (i + 1)))) * co 11 (co 7 (k * 6 + amx (wtC co k) (i + 1))))), .int (zI (co 9 (k * 8 + (co 7 (k * 6 + ((i : Int) + 1)))) * co 11 (co 7 (k * 6 + ((i : Int) + 1)))))]
    have hb_9 := hO.b9 (k * 8 + (co 7 (k * 6 + amx (wtC co k) (i + 1))))
    have hb_10 := hO.b11 (co 7 (k * 6 + amx (wtC co k) (i + 1)))
    have hf_11 := w2_b hO (k * 8 + (co 7 (k * 6 + amx (wtC co k) (i + 1)))) (co 7 (k * 6 + amx (wtC co k) (i + 1)))
    refine v_icmp_le X (by omega) (by omega) dX8_heaviestIn_42 45 48 rfl (by decide) (fun c_12 => ?_) (fun c_12 => ?_)
    · skip
      refine v_iinc X dX8_heaviestIn_48 51 rfl 1 rfl (by decide) (L' := [(3, .int (zI ((i : Int) + 1 + 1))), (4, .int (zI (co 7 (k * 6 + ((i : Int) + 1))))), (2, .int (zI (co 7 (k * 6 + amx (wtC co k) (i + 1))))), (0, .ref b), (1, .int (zI k))]) rfl ?_
      refine v_goto X dX8_heaviestIn_51 9 (by decide) ?_
      refine v_locals [0, 2, 3, 4] (L' := [(3, .int (zI ((i : Int) + 1 + 1))), (2, .int (zI (co 7 (k * 6 + amx (wtC co k) (i + 1))))), (0, .ref b), (1, .int (zI k))]) rfl ?_
      exact V_L (L' := [(3, .int (zI (((i + 1 : Nat) : Int) + 1))), (2, .int (zI (co 7 (k * 6 + amx (wtC co k) ((i + 1) + 1))))), (0, .ref b), (1, .int (zI k))]) (LC (vz (by omega)) (LC (vz (by rw [amx_s (wtC co k) (i + 1)]; first | (rw [if_pos (by assumption)]; rfl) | rw [if_neg (Int.not_lt.mpr (by assumption))])) (LC rfl (LC rfl rfl)))) (ih_i (by omega))
    · skip
      refine v_iload X dX8_heaviestIn_45 47 rfl 0 rfl ?_
      refine v_istore_n X dX8_heaviestIn_47 48 rfl rfl (by decide) (L' := [(2, .int (zI (co 7 (k * 6 + ((i : Int) + 1))))), (4, .int (zI (co 7 (k * 6 + ((i : Int) + 1))))), (3, .int (zI ((i : Int) + 1))), (0, .ref b), (1, .int (zI k))]) rfl ?_
      refine v_iinc X dX8_heaviestIn_48 51 rfl 2 rfl (by decide) (L' := [(3, .int (zI ((i : Int) + 1 + 1))), (2, .int (zI (co 7 (k * 6 + ((i : Int) + 1))))), (4, .int (zI (co 7 (k * 6 + ((i : Int) + 1))))), (0, .ref b), (1, .int (zI k))]) rfl ?_
      refine v_goto X dX8_heaviestIn_51 9 (by decide) ?_
      refine v_locals [0, 1, 3, 4] (L' := [(3, .int (zI ((i : Int) + 1 + 1))), (2, .int (zI (co 7 (k * 6 + ((i : Int) + 1))))), (0, .ref b), (1, .int (zI k))]) rfl ?_
      exact V_L (L' := [(3, .int (zI (((i + 1 : Nat) : Int) + 1))), (2, .int (zI (co 7 (k * 6 + amx (wtC co k) ((i + 1) + 1))))), (0, .ref b), (1, .int (zI k))]) (LC (vz (by omega)) (LC (vz (by rw [amx_s (wtC co k) (i + 1)]; first | (rw [if_pos (by assumption)]; rfl) | rw [if_neg (Int.not_lt.mpr (by assumption))])) (LC rfl (LC rfl rfl)))) (ih_i (by omega))
def faC (co : Nat → Int → Int) (k w : Int) : Int := firstZ (fun j => 0 < mgC co k + j * (co 8 (k * 8 + w) * co 9 (k * 8 + w))) (9 - co 11 w + 1).toNat
set_option maxHeartbeats 4000000 in
set_option maxRecDepth 20000 in
theorem c_X8_firmAnswersNeeded (l : Launch) (E : Nat → Nat → Nat) (b : Nat) (co : Nat → Int → Int) (k : Int) (w : Int) (hO : OkC co) (k0 : 0 ≤ k) (k1 : k < 16) (w0 : 0 ≤ w) (w1 : w < 8) : Rd l yX8_firmAnswersNeeded cX8_firmAnswersNeeded 7 (some .int) 3 E [.ref b, .int (zI k), .int (zI w)] (courtW E b co) (some (.int (zI (faC co k w)))) := by
  refine Rd.start (own := RX8) rfl (by decide +kernel) (Nat.le_of_ble_eq_true rfl) ?_
  intro p e s m below meth cd args Q hQ X hr hlk hC hP
  have h_co := hP
  refine v_aload_n X dX8_firmAnswersNeeded_0 1 rfl 0 rfl ?_
  refine v_iload_n X dX8_firmAnswersNeeded_1 2 rfl 1 rfl ?_
  refine v_iload_n X dX8_firmAnswersNeeded_2 3 rfl 2 rfl ?_
  refine v_rdV X hC h_co (c_X0_sideOf l E b co k w k0 k1 w0 w1) kvX0_sideOf kiX0_sideOf kl_X8_25 rfl rfl (As := [.int (zI k), .int (zI w)]) rfl rfl rfl dX8_firmAnswersNeeded_3 6 rfl ?_
  show V p l e (rmL 3 0 0) s m args below meth cd Q 7 s.heap [] 0 0 6 [(0, .ref b), (1, .int (zI k)), (2, .int (zI w))] [.int (zI (co 8 (k * 8 + w)))]
  have hb_1 := hO.b8 (k * 8 + w)
  refine v_aload_n X dX8_firmAnswersNeeded_6 7 rfl 0 rfl ?_
  refine v_iload_n X dX8_firmAnswersNeeded_7 8 rfl 1 rfl ?_
  refine v_iload_n X dX8_firmAnswersNeeded_8 9 rfl 2 rfl ?_
  refine v_rdV X hC h_co (c_X0_strengthOf l E b co k w k0 k1 w0 w1) kvX0_strengthOf kiX0_strengthOf kl_X8_43 rfl rfl (As := [.int (zI k), .int (zI w)]) rfl rfl rfl dX8_firmAnswersNeeded_9 12 rfl ?_
  show V p l e (rmL 3 0 0) s m args below meth cd Q 7 s.heap [] 0 0 12 [(0, .ref b), (1, .int (zI k)), (2, .int (zI w))] [.int (zI (co 9 (k * 8 + w))), .int (zI (co 8 (k * 8 + w)))]
  have hb_2 := hO.b9 (k * 8 + w)
  refine v_imul X dX8_firmAnswersNeeded_12 13 rfl ?_
  refine v_istore_n X dX8_firmAnswersNeeded_13 14 rfl rfl (by decide) (L' := [(3, .int (zI ((co 8 (k * 8 + w)) * (co 9 (k * 8 + w))))), (0, .ref b), (1, .int (zI k)), (2, .int (zI w))]) rfl ?_
  refine v_bipush X dX8_firmAnswersNeeded_14 16 rfl rfl ?_
  refine v_aload_n X dX8_firmAnswersNeeded_16 17 rfl 1 rfl ?_
  refine v_getfN X hC h_co inX0 0 rfl rfl 14 (by decide) kfn_X8_40 (fun _ h => h) rfl dX8_firmAnswersNeeded_17 20 rfl ?_
  refine v_iload_n X dX8_firmAnswersNeeded_20 21 rfl 3 rfl ?_
  refine v_rdV X hC (PW.part h_co 21 2 (wc := rowW E (b + 21) 8 (co 11)) rfl) (c_X6_get l E (b + 21) 8 (co 11) w w0 w1 (by omega)) kvX6_get kiX6_get kl_X8_15 rfl rfl (As := [.int (zI w)]) rfl rfl rfl dX8_firmAnswersNeeded_21 24 rfl ?_
  show V p l e (rmL 3 0 0) s m args below meth cd Q 7 s.heap [] 0 0 24 [(3, .int (zI ((co 8 (k * 8 + w)) * (co 9 (k * 8 + w))))), (0, .ref b), (1, .int (zI k)), (2, .int (zI w))] [.int (zI (co 11 w)), .int (zI 9)]
  have hb_3 := hO.b11 w
  refine v_isub X dX8_firmAnswersNeeded_24 25 rfl ?_
  refine v_istore X dX8_firmAnswersNeeded_25 27 rfl (by decide) (L' := [(4, .int (zI (9 - co 11 w))), (3, .int (zI ((co 8 (k * 8 + w)) * (co 9 (k * 8 + w))))), (0, .ref b), (1, .int (zI k)), (2, .int (zI w))]) rfl ?_
  refine v_aload_n X dX8_firmAnswersNeeded_27 28 rfl 2 rfl ?_
  refine v_iload_n X dX8_firmAnswersNeeded_28 29 rfl 3 rfl ?_
  refine v_rdS X hC h_co (c_X8_marginByTestimony l E b co k hO k0 k1) kvX8_marginByTestimony ksX8_marginByTestimony kl_X8_46 (As := [.ref b, .int (zI k)]) rfl rfl rfl dX8_firmAnswersNeeded_29 32 rfl ?_
  show V p l e (rmL 3 0 0) s m args below meth cd Q 7 s.heap [] 0 0 32 [(4, .int (zI (9 - co 11 w))), (3, .int (zI ((co 8 (k * 8 + w)) * (co 9 (k * 8 + w))))), (0, .ref b), (1, .int (zI k)), (2, .int (zI w))] [.int (zI (mgC co k))]
  have hf_4 := mgC_b hO k
  refine v_istore X dX8_firmAnswersNeeded_32 34 rfl (by decide) (L' := [(5, .int (zI (mgC co k))), (4, .int (zI (9 - co 11 w))), (3, .int (zI ((co 8 (k * 8 + w)) * (co 9 (k * 8 + w))))), (0, .ref b), (1, .int (zI k)), (2, .int (zI w))]) rfl ?_
  refine v_iconst X dX8_firmAnswersNeeded_34 35 rfl ?_
  refine v_istore X dX8_firmAnswersNeeded_35 37 rfl (by decide) (L' := [(6, .int (zI 0)), (5, .int (zI (mgC co k))), (4, .int (zI (9 - co 11 w))), (3, .int (zI ((co 8 (k * 8 + w)) * (co 9 (k * 8 + w))))), (0, .ref b), (1, .int (zI k)), (2, .int (zI w))]) rfl ?_
  refine v_locals [0, 1, 2, 3] (L' := [(6, .int (zI 0)), (5, .int (zI (mgC co k))), (4, .int (zI (9 - co 11 w))), (3, .int (zI ((co 8 (k * 8 + w)) * (co 9 (k * 8 + w)))))]) rfl ?_
  refine V_L (L' := [(6, .int (zI 0)), (5, .int (zI (mgC co k))), (4, .int (zI (9 - co 11 w))), (3, .int (zI (co 8 (k * 8 + w) * co 9 (k * 8 + w))))]) (LC rfl (LC rfl (LC rfl (LC (vz (by omega)) rfl)))) ?_
  refine up_loop ((9 - co 11 w + 1).toNat) (P := fun (i : Nat) => (∀ j : Int, 0 ≤ j → j < (i : Int) → ¬ (0 < mgC co k + j * (co 8 (k * 8 + w) * co 9 (k * 8 + w)))) → V p l e (rmL 3 0 0) s m args below meth cd Q 7 s.heap [] 0 0 37 [(6, .int (zI (i : Int))), (5, .int (zI (mgC co k))), (4, .int (zI (9 - co 11 w))), (3, .int (zI (co 8 (k * 8 + w) * co 9 (k * 8 + w))))] []) (fun i hi_i ih_i hno_i => ?_) (fun j a b => absurd b (by omega))
  have hfm := mul_b (a := (i : Int)) (A := 10) (b := (co 8 (k * 8 + w) * co 9 (k * 8 + w))) (B := 5) (by omega) (by have := hO.b11 w; omega) (sgn_b (hO.b8 _).1 (hO.b8 _).2 (hO.b9 _).1 (hO.b9 _).2).1 (sgn_b (hO.b8 _).1 (hO.b8 _).2 (hO.b9 _).1 (hO.b9 _).2).2 (by decide) (by decide)
  have hfg := mgC_b hO k
  refine v_iload X dX8_firmAnswersNeeded_37 39 rfl 0 rfl ?_
  refine v_iload X dX8_firmAnswersNeeded_39 41 rfl 2 rfl ?_
  refine v_icmp_gt X (by omega) (by omega) dX8_firmAnswersNeeded_41 44 63 rfl (by decide) (fun c_5 => ?_) (fun c_5 => ?_)
  · skip
    refine v_iconst X dX8_firmAnswersNeeded_63 64 rfl ?_
    subst hQ; exact v_iret0 X hr hlk dX8_firmAnswersNeeded_64 (by first | exact (firstZ_hit (p := fun j => 0 < mgC co k + j * (co 8 (k * 8 + w) * co 9 (k * 8 + w))) (by omega) (by omega) (by assumption) hno_i) | exact (firstZ_none (p := fun j => 0 < mgC co k + j * (co 8 (k * 8 + w) * co 9 (k * 8 + w))) (fun j a b => hno_i j a (by omega))))
  · skip
    refine v_iload X dX8_firmAnswersNeeded_44 46 rfl 1 rfl ?_
    refine v_iload X dX8_firmAnswersNeeded_46 48 rfl 0 rfl ?_
    refine v_iload_n X dX8_firmAnswersNeeded_48 49 rfl 3 rfl ?_
    refine v_imul X dX8_firmAnswersNeeded_49 50 rfl ?_
    refine v_iadd X dX8_firmAnswersNeeded_50 51 rfl ?_
    refine v_if_le X (by omega) dX8_firmAnswersNeeded_51 54 57 rfl (by decide) (fun c_6 => ?_) (fun c_6 => ?_)
    · skip
      refine v_iinc X dX8_firmAnswersNeeded_57 60 rfl 0 rfl (by decide) (L' := [(6, .int (zI ((i : Int) + 1))), (5, .int (zI (mgC co k))), (4, .int (zI (9 - co 11 w))), (3, .int (zI (co 8 (k * 8 + w) * co 9 (k * 8 + w))))]) rfl ?_
      refine v_goto X dX8_firmAnswersNeeded_60 37 (by decide) ?_
      exact V_L (L' := [(6, .int (zI ((i + 1 : Nat) : Int))), (5, .int (zI (mgC co k))), (4, .int (zI (9 - co 11 w))), (3, .int (zI (co 8 (k * 8 + w) * co 9 (k * 8 + w))))]) (LC (vz (by omega)) (LC rfl (LC rfl (LC rfl rfl)))) (ih_i (by omega) (fun j a b => by
        rcases (show j < (i : Int) ∨ (i : Int) ≤ j by omega) with q | q
        · exact hno_i j a q
        · have e : j = (i : Int) := by omega
          subst e
          first | assumption | omega))
    · skip
      refine v_iload X dX8_firmAnswersNeeded_54 56 rfl 0 rfl ?_
      subst hQ; exact v_iret0 X hr hlk dX8_firmAnswersNeeded_56 (by first | exact (firstZ_hit (p := fun j => 0 < mgC co k + j * (co 8 (k * 8 + w) * co 9 (k * 8 + w))) (by omega) (by omega) (by assumption) hno_i) | exact (firstZ_none (p := fun j => 0 < mgC co k + j * (co 8 (k * 8 + w) * co 9 (k * 8 + w))) (fun j a b => hno_i j a (by omega))))

