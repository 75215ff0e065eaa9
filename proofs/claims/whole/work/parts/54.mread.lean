set_option maxHeartbeats 4000000 in
set_option maxRecDepth 20000 in
theorem c_X10_thrown (l : Launch) (E : Nat → Nat → Nat) (b : Nat) (mo : Nat → Int → Int) : Rd l yX10_thrown cX10_thrown 1 (some .int) 0 E [.ref b] (modelW E b mo) (some (.int (zI (mo 0 0)))) := by
  refine Rd.start (own := RX10) rfl (by decide +kernel) (Nat.le_of_ble_eq_true rfl) ?_
  intro p e s m below meth cd args Q hQ X hr hlk hC hP
  have h_mo := hP
  refine v_aload_n X dX10_thrown_0 1 rfl 0 rfl ?_
  refine v_getf X hC h_mo inX10 0 rfl rfl 0 (by decide) kf_X10_30 (fun _ h => h) rfl dX10_thrown_1 4 rfl ?_
  show V p l e (rmL 0 0 0) s m args below meth cd Q 1 s.heap [] 0 0 4 [(0, .ref b)] [.int (zI (mo 0 0))]
  subst hQ; exact v_iret0 X hr hlk dX10_thrown_4 rfl
set_option maxHeartbeats 4000000 in
set_option maxRecDepth 20000 in
theorem c_X10_in (l : Launch) (E : Nat → Nat → Nat) (x : Int) (lo : Int) (hi : Int) (gx : Rg x) (gl : Rg lo) (gh : Rg hi) : Rd l yX10_in cX10_in 3 (some .boolean) 0 E [.int (zI x), .int (zI lo), .int (zI hi)] ([]) (some (.int (zI (bz (lo ≤ x ∧ x ≤ hi))))) := by
  refine Rd.start (own := RX10) rfl (by decide +kernel) (Nat.le_of_ble_eq_true rfl) ?_
  intro p e s m below meth cd args Q hQ X hr hlk hC hP
  refine v_iload_n X dX10_in_0 1 rfl 0 rfl ?_
  refine v_iload_n X dX10_in_1 2 rfl 1 rfl ?_
  refine v_icmp_lt X (by omega) (by omega) dX10_in_2 5 14 rfl (by decide) (fun c_1 => ?_) (fun c_1 => ?_)
  · skip
    refine v_iconst X dX10_in_14 15 rfl ?_
    subst hQ; exact v_zret0 X hr hlk dX10_in_15 (bz_f (by omega))
  · skip
    refine v_iload_n X dX10_in_5 6 rfl 0 rfl ?_
    refine v_iload_n X dX10_in_6 7 rfl 2 rfl ?_
    refine v_icmp_gt X (by omega) (by omega) dX10_in_7 10 14 rfl (by decide) (fun c_2 => ?_) (fun c_2 => ?_)
    · skip
      refine v_iconst X dX10_in_14 15 rfl ?_
      subst hQ; exact v_zret0 X hr hlk dX10_in_15 (bz_f (by omega))
    · skip
      refine v_iconst X dX10_in_10 11 rfl ?_
      refine v_goto X dX10_in_11 15 (by decide) ?_
      subst hQ; exact v_zret0 X hr hlk dX10_in_15 (bz_t (by omega))
set_option maxHeartbeats 4000000 in
set_option maxRecDepth 20000 in
theorem c_X10_c_0 (l : Launch) (E : Nat → Nat → Nat) (b : Nat) (mo : Nat → Int → Int) (co : Nat → Int → Int) (k : Int) (hO : OkC co) (hR : RelC co (mo 1)) (k0 : 0 ≤ k) (k1 : k < co 0 0) : Rd l yX10_c cX10_c 3 (some .int) 0 E [.ref b, .int (zI k), .int (zI 0)] (modelW E b mo) (some (.int (zI (co 1 k)))) := by
  refine Rd.start (own := RX10) rfl (by decide +kernel) (Nat.le_of_ble_eq_true rfl) ?_
  intro p e s m below meth cd args Q hQ X hr hlk hC hP
  have h_mo := hP
  have hb0 := hO.b0
  have hbw := hO.bw
  refine v_aload_n X dX10_c_0 1 rfl 0 rfl ?_
  refine v_getf X hC h_mo inX10 0 rfl rfl 1 (by decide) kf_X10_9 (fun _ h => h) rfl dX10_c_1 4 rfl ?_
  refine v_bipush X dX10_c_4 6 rfl rfl ?_
  refine v_bipush X dX10_c_6 8 rfl rfl ?_
  refine v_iload_n X dX10_c_8 9 rfl 1 rfl ?_
  refine v_imul X dX10_c_9 10 rfl ?_
  refine v_iadd X dX10_c_10 11 rfl ?_
  refine v_iload_n X dX10_c_11 12 rfl 2 rfl ?_
  refine v_iadd X dX10_c_12 13 rfl ?_
  refine v_iald X hC h_mo 1 rfl (by omega) (by omega) (by omega) dX10_c_13 14 rfl ?_
  subst hQ; exact v_iret0 X hr hlk dX10_c_14 (by exact (hR.c k0 k1).1.symm)
set_option maxHeartbeats 4000000 in
set_option maxRecDepth 20000 in
theorem c_X10_c_1 (l : Launch) (E : Nat → Nat → Nat) (b : Nat) (mo : Nat → Int → Int) (co : Nat → Int → Int) (k : Int) (hO : OkC co) (hR : RelC co (mo 1)) (k0 : 0 ≤ k) (k1 : k < co 0 0) : Rd l yX10_c cX10_c 3 (some .int) 0 E [.ref b, .int (zI k), .int (zI 1)] (modelW E b mo) (some (.int (zI (co 2 k)))) := by
  refine Rd.start (own := RX10) rfl (by decide +kernel) (Nat.le_of_ble_eq_true rfl) ?_
  intro p e s m below meth cd args Q hQ X hr hlk hC hP
  have h_mo := hP
  have hb0 := hO.b0
  have hbw := hO.bw
  refine v_aload_n X dX10_c_0 1 rfl 0 rfl ?_
  refine v_getf X hC h_mo inX10 0 rfl rfl 1 (by decide) kf_X10_9 (fun _ h => h) rfl dX10_c_1 4 rfl ?_
  refine v_bipush X dX10_c_4 6 rfl rfl ?_
  refine v_bipush X dX10_c_6 8 rfl rfl ?_
  refine v_iload_n X dX10_c_8 9 rfl 1 rfl ?_
  refine v_imul X dX10_c_9 10 rfl ?_
  refine v_iadd X dX10_c_10 11 rfl ?_
  refine v_iload_n X dX10_c_11 12 rfl 2 rfl ?_
  refine v_iadd X dX10_c_12 13 rfl ?_
  refine v_iald X hC h_mo 1 rfl (by omega) (by omega) (by omega) dX10_c_13 14 rfl ?_
  subst hQ; exact v_iret0 X hr hlk dX10_c_14 (by exact (hR.c k0 k1).2.1.symm)
set_option maxHeartbeats 4000000 in
set_option maxRecDepth 20000 in
theorem c_X10_c_2 (l : Launch) (E : Nat → Nat → Nat) (b : Nat) (mo : Nat → Int → Int) (co : Nat → Int → Int) (k : Int) (hO : OkC co) (hR : RelC co (mo 1)) (k0 : 0 ≤ k) (k1 : k < co 0 0) : Rd l yX10_c cX10_c 3 (some .int) 0 E [.ref b, .int (zI k), .int (zI 2)] (modelW E b mo) (some (.int (zI (co 3 k)))) := by
  refine Rd.start (own := RX10) rfl (by decide +kernel) (Nat.le_of_ble_eq_true rfl) ?_
  intro p e s m below meth cd args Q hQ X hr hlk hC hP
  have h_mo := hP
  have hb0 := hO.b0
  have hbw := hO.bw
  refine v_aload_n X dX10_c_0 1 rfl 0 rfl ?_
  refine v_getf X hC h_mo inX10 0 rfl rfl 1 (by decide) kf_X10_9 (fun _ h => h) rfl dX10_c_1 4 rfl ?_
  refine v_bipush X dX10_c_4 6 rfl rfl ?_
  refine v_bipush X dX10_c_6 8 rfl rfl ?_
  refine v_iload_n X dX10_c_8 9 rfl 1 rfl ?_
  refine v_imul X dX10_c_9 10 rfl ?_
  refine v_iadd X dX10_c_10 11 rfl ?_
  refine v_iload_n X dX10_c_11 12 rfl 2 rfl ?_
  refine v_iadd X dX10_c_12 13 rfl ?_
  refine v_iald X hC h_mo 1 rfl (by omega) (by omega) (by omega) dX10_c_13 14 rfl ?_
  subst hQ; exact v_iret0 X hr hlk dX10_c_14 (by exact (hR.c k0 k1).2.2.1.symm)
set_option maxHeartbeats 4000000 in
set_option maxRecDepth 20000 in
theorem c_X10_c_3 (l : Launch) (E : Nat → Nat → Nat) (b : Nat) (mo : Nat → Int → Int) (co : Nat → Int → Int) (k : Int) (hO : OkC co) (hR : RelC co (mo 1)) (k0 : 0 ≤ k) (k1 : k < co 0 0) : Rd l yX10_c cX10_c 3 (some .int) 0 E [.ref b, .int (zI k), .int (zI 3)] (modelW E b mo) (some (.int (zI (co 4 k)))) := by
  refine Rd.start (own := RX10) rfl (by decide +kernel) (Nat.le_of_ble_eq_true rfl) ?_
  intro p e s m below meth cd args Q hQ X hr hlk hC hP
  have h_mo := hP
  have hb0 := hO.b0
  have hbw := hO.bw
  refine v_aload_n X dX10_c_0 1 rfl 0 rfl ?_
  refine v_getf X hC h_mo inX10 0 rfl rfl 1 (by decide) kf_X10_9 (fun _ h => h) rfl dX10_c_1 4 rfl ?_
  refine v_bipush X dX10_c_4 6 rfl rfl ?_
  refine v_bipush X dX10_c_6 8 rfl rfl ?_
  refine v_iload_n X dX10_c_8 9 rfl 1 rfl ?_
  refine v_imul X dX10_c_9 10 rfl ?_
  refine v_iadd X dX10_c_10 11 rfl ?_
  refine v_iload_n X dX10_c_11 12 rfl 2 rfl ?_
  refine v_iadd X dX10_c_12 13 rfl ?_
  refine v_iald X hC h_mo 1 rfl (by omega) (by omega) (by omega) dX10_c_13 14 rfl ?_
  subst hQ; exact v_iret0 X hr hlk dX10_c_14 (by exact (hR.c k0 k1).2.2.2.1.symm)
set_option maxHeartbeats 4000000 in
set_option maxRecDepth 20000 in
theorem c_X10_c_4 (l : Launch) (E : Nat → Nat → Nat) (b : Nat) (mo : Nat → Int → Int) (co : Nat → Int → Int) (k : Int) (hO : OkC co) (hR : RelC co (mo 1)) (k0 : 0 ≤ k) (k1 : k < co 0 0) : Rd l yX10_c cX10_c 3 (some .int) 0 E [.ref b, .int (zI k), .int (zI 4)] (modelW E b mo) (some (.int (zI (co 5 k)))) := by
  refine Rd.start (own := RX10) rfl (by decide +kernel) (Nat.le_of_ble_eq_true rfl) ?_
  intro p e s m below meth cd args Q hQ X hr hlk hC hP
  have h_mo := hP
  have hb0 := hO.b0
  have hbw := hO.bw
  refine v_aload_n X dX10_c_0 1 rfl 0 rfl ?_
  refine v_getf X hC h_mo inX10 0 rfl rfl 1 (by decide) kf_X10_9 (fun _ h => h) rfl dX10_c_1 4 rfl ?_
  refine v_bipush X dX10_c_4 6 rfl rfl ?_
  refine v_bipush X dX10_c_6 8 rfl rfl ?_
  refine v_iload_n X dX10_c_8 9 rfl 1 rfl ?_
  refine v_imul X dX10_c_9 10 rfl ?_
  refine v_iadd X dX10_c_10 11 rfl ?_
  refine v_iload_n X dX10_c_11 12 rfl 2 rfl ?_
  refine v_iadd X dX10_c_12 13 rfl ?_
  refine v_iald X hC h_mo 1 rfl (by omega) (by omega) (by omega) dX10_c_13 14 rfl ?_
  subst hQ; exact v_iret0 X hr hlk dX10_c_14 (by exact (hR.c k0 k1).2.2.2.2.1.symm)
set_option maxHeartbeats 4000000 in
set_option maxRecDepth 20000 in
theorem c_X10_c_5 (l : Launch) (E : Nat → Nat → Nat) (b : Nat) (mo : Nat → Int → Int) (co : Nat → Int → Int) (k : Int) (hO : OkC co) (hR : RelC co (mo 1)) (k0 : 0 ≤ k) (k1 : k < co 0 0) : Rd l yX10_c cX10_c 3 (some .int) 0 E [.ref b, .int (zI k), .int (zI 5)] (modelW E b mo) (some (.int (zI (co 6 k)))) := by
  refine Rd.start (own := RX10) rfl (by decide +kernel) (Nat.le_of_ble_eq_true rfl) ?_
  intro p e s m below meth cd args Q hQ X hr hlk hC hP
  have h_mo := hP
  have hb0 := hO.b0
  have hbw := hO.bw
  refine v_aload_n X dX10_c_0 1 rfl 0 rfl ?_
  refine v_getf X hC h_mo inX10 0 rfl rfl 1 (by decide) kf_X10_9 (fun _ h => h) rfl dX10_c_1 4 rfl ?_
  refine v_bipush X dX10_c_4 6 rfl rfl ?_
  refine v_bipush X dX10_c_6 8 rfl rfl ?_
  refine v_iload_n X dX10_c_8 9 rfl 1 rfl ?_
  refine v_imul X dX10_c_9 10 rfl ?_
  refine v_iadd X dX10_c_10 11 rfl ?_
  refine v_iload_n X dX10_c_11 12 rfl 2 rfl ?_
  refine v_iadd X dX10_c_12 13 rfl ?_
  refine v_iald X hC h_mo 1 rfl (by omega) (by omega) (by omega) dX10_c_13 14 rfl ?_
  subst hQ; exact v_iret0 X hr hlk dX10_c_14 (by exact (hR.c k0 k1).2.2.2.2.2.symm)
set_option maxHeartbeats 4000000 in
set_option maxRecDepth 20000 in
theorem c_X10_t_0 (l : Launch) (E : Nat → Nat → Nat) (b : Nat) (mo : Nat → Int → Int) (co : Nat → Int → Int) (k : Int) (j : Int) (hO : OkC co) (hR : RelC co (mo 1)) (k0 : 0 ≤ k) (k1 : k < co 0 0) (j0 : 0 ≤ j) (j1 : j < co 6 k) : Rd l yX10_t cX10_t 4 (some .int) 0 E [.ref b, .int (zI k), .int (zI j), .int (zI 0)] (modelW E b mo) (some (.int (zI (co 7 (k * 6 + j))))) := by
  refine Rd.start (own := RX10) rfl (by decide +kernel) (Nat.le_of_ble_eq_true rfl) ?_
  intro p e s m below meth cd args Q hQ X hr hlk hC hP
  have h_mo := hP
  have hb0 := hO.b0
  have hbw := hO.bw
  have hb6 := hO.b6 k
  refine v_aload_n X dX10_t_0 1 rfl 0 rfl ?_
  refine v_getf X hC h_mo inX10 0 rfl rfl 1 (by decide) kf_X10_9 (fun _ h => h) rfl dX10_t_1 4 rfl ?_
  refine v_bipush X dX10_t_4 6 rfl rfl ?_
  refine v_bipush X dX10_t_6 8 rfl rfl ?_
  refine v_iload_n X dX10_t_8 9 rfl 1 rfl ?_
  refine v_imul X dX10_t_9 10 rfl ?_
  refine v_iadd X dX10_t_10 11 rfl ?_
  refine v_bipush X dX10_t_11 13 rfl rfl ?_
  refine v_iadd X dX10_t_13 14 rfl ?_
  refine v_iconst X dX10_t_14 15 rfl ?_
  refine v_iload_n X dX10_t_15 16 rfl 2 rfl ?_
  refine v_imul X dX10_t_16 17 rfl ?_
  refine v_iadd X dX10_t_17 18 rfl ?_
  refine v_iload_n X dX10_t_18 19 rfl 3 rfl ?_
  refine v_iadd X dX10_t_19 20 rfl ?_
  refine v_iald X hC h_mo 1 rfl (by omega) (by omega) (by omega) dX10_t_20 21 rfl ?_
  subst hQ; exact v_iret0 X hr hlk dX10_t_21 (by exact (hR.t k0 k1 j0 j1).1.symm)
set_option maxHeartbeats 4000000 in
set_option maxRecDepth 20000 in
theorem c_X10_t_1 (l : Launch) (E : Nat → Nat → Nat) (b : Nat) (mo : Nat → Int → Int) (co : Nat → Int → Int) (k : Int) (j : Int) (hO : OkC co) (hR : RelC co (mo 1)) (k0 : 0 ≤ k) (k1 : k < co 0 0) (j0 : 0 ≤ j) (j1 : j < co 6 k) : Rd l yX10_t cX10_t 4 (some .int) 0 E [.ref b, .int (zI k), .int (zI j), .int (zI 1)] (modelW E b mo) (some (.int (zI ((sdC co k j + 1) / 2)))) := by
  refine Rd.start (own := RX10) rfl (by decide +kernel) (Nat.le_of_ble_eq_true rfl) ?_
  intro p e s m below meth cd args Q hQ X hr hlk hC hP
  have h_mo := hP
  have hb0 := hO.b0
  have hbw := hO.bw
  have hb6 := hO.b6 k
  refine v_aload_n X dX10_t_0 1 rfl 0 rfl ?_
  refine v_getf X hC h_mo inX10 0 rfl rfl 1 (by decide) kf_X10_9 (fun _ h => h) rfl dX10_t_1 4 rfl ?_
  refine v_bipush X dX10_t_4 6 rfl rfl ?_
  refine v_bipush X dX10_t_6 8 rfl rfl ?_
  refine v_iload_n X dX10_t_8 9 rfl 1 rfl ?_
  refine v_imul X dX10_t_9 10 rfl ?_
  refine v_iadd X dX10_t_10 11 rfl ?_
  refine v_bipush X dX10_t_11 13 rfl rfl ?_
  refine v_iadd X dX10_t_13 14 rfl ?_
  refine v_iconst X dX10_t_14 15 rfl ?_
  refine v_iload_n X dX10_t_15 16 rfl 2 rfl ?_
  refine v_imul X dX10_t_16 17 rfl ?_
  refine v_iadd X dX10_t_17 18 rfl ?_
  refine v_iload_n X dX10_t_18 19 rfl 3 rfl ?_
  refine v_iadd X dX10_t_19 20 rfl ?_
  refine v_iald X hC h_mo 1 rfl (by omega) (by omega) (by omega) dX10_t_20 21 rfl ?_
  subst hQ; exact v_iret0 X hr hlk dX10_t_21 (by exact (hR.t k0 k1 j0 j1).2.1.symm)
set_option maxHeartbeats 4000000 in
set_option maxRecDepth 20000 in
theorem c_X10_t_2 (l : Launch) (E : Nat → Nat → Nat) (b : Nat) (mo : Nat → Int → Int) (co : Nat → Int → Int) (k : Int) (j : Int) (hO : OkC co) (hR : RelC co (mo 1)) (k0 : 0 ≤ k) (k1 : k < co 0 0) (j0 : 0 ≤ j) (j1 : j < co 6 k) : Rd l yX10_t cX10_t 4 (some .int) 0 E [.ref b, .int (zI k), .int (zI j), .int (zI 2)] (modelW E b mo) (some (.int (zI (co 9 (k * 8 + co 7 (k * 6 + j)))))) := by
  refine Rd.start (own := RX10) rfl (by decide +kernel) (Nat.le_of_ble_eq_true rfl) ?_
  intro p e s m below meth cd args Q hQ X hr hlk hC hP
  have h_mo := hP
  have hb0 := hO.b0
  have hbw := hO.bw
  have hb6 := hO.b6 k
  refine v_aload_n X dX10_t_0 1 rfl 0 rfl ?_
  refine v_getf X hC h_mo inX10 0 rfl rfl 1 (by decide) kf_X10_9 (fun _ h => h) rfl dX10_t_1 4 rfl ?_
  refine v_bipush X dX10_t_4 6 rfl rfl ?_
  refine v_bipush X dX10_t_6 8 rfl rfl ?_
  refine v_iload_n X dX10_t_8 9 rfl 1 rfl ?_
  refine v_imul X dX10_t_9 10 rfl ?_
  refine v_iadd X dX10_t_10 11 rfl ?_
  refine v_bipush X dX10_t_11 13 rfl rfl ?_
  refine v_iadd X dX10_t_13 14 rfl ?_
  refine v_iconst X dX10_t_14 15 rfl ?_
  refine v_iload_n X dX10_t_15 16 rfl 2 rfl ?_
  refine v_imul X dX10_t_16 17 rfl ?_
  refine v_iadd X dX10_t_17 18 rfl ?_
  refine v_iload_n X dX10_t_18 19 rfl 3 rfl ?_
  refine v_iadd X dX10_t_19 20 rfl ?_
  refine v_iald X hC h_mo 1 rfl (by omega) (by omega) (by omega) dX10_t_20 21 rfl ?_
  subst hQ; exact v_iret0 X hr hlk dX10_t_21 (by exact (hR.t k0 k1 j0 j1).2.2.1.symm)
set_option maxHeartbeats 4000000 in
set_option maxRecDepth 20000 in
theorem c_X10_t_3 (l : Launch) (E : Nat → Nat → Nat) (b : Nat) (mo : Nat → Int → Int) (co : Nat → Int → Int) (k : Int) (j : Int) (hO : OkC co) (hR : RelC co (mo 1)) (k0 : 0 ≤ k) (k1 : k < co 0 0) (j0 : 0 ≤ j) (j1 : j < co 6 k) : Rd l yX10_t cX10_t 4 (some .int) 0 E [.ref b, .int (zI k), .int (zI j), .int (zI 3)] (modelW E b mo) (some (.int (zI (co 10 (k * 8 + co 7 (k * 6 + j)))))) := by
  refine Rd.start (own := RX10) rfl (by decide +kernel) (Nat.le_of_ble_eq_true rfl) ?_
  intro p e s m below meth cd args Q hQ X hr hlk hC hP
  have h_mo := hP
  have hb0 := hO.b0
  have hbw := hO.bw
  have hb6 := hO.b6 k
  refine v_aload_n X dX10_t_0 1 rfl 0 rfl ?_
  refine v_getf X hC h_mo inX10 0 rfl rfl 1 (by decide) kf_X10_9 (fun _ h => h) rfl dX10_t_1 4 rfl ?_
  refine v_bipush X dX10_t_4 6 rfl rfl ?_
  refine v_bipush X dX10_t_6 8 rfl rfl ?_
  refine v_iload_n X dX10_t_8 9 rfl 1 rfl ?_
  refine v_imul X dX10_t_9 10 rfl ?_
  refine v_iadd X dX10_t_10 11 rfl ?_
  refine v_bipush X dX10_t_11 13 rfl rfl ?_
  refine v_iadd X dX10_t_13 14 rfl ?_
  refine v_iconst X dX10_t_14 15 rfl ?_
  refine v_iload_n X dX10_t_15 16 rfl 2 rfl ?_
  refine v_imul X dX10_t_16 17 rfl ?_
  refine v_iadd X dX10_t_17 18 rfl ?_
  refine v_iload_n X dX10_t_18 19 rfl 3 rfl ?_
  refine v_iadd X dX10_t_19 20 rfl ?_
  refine v_iald X hC h_mo 1 rfl (by omega) (by omega) (by omega) dX10_t_20 21 rfl ?_
  subst hQ; exact v_iret0 X hr hlk dX10_t_21 (by exact (hR.t k0 k1 j0 j1).2.2.2.symm)
set_option maxHeartbeats 4000000 in
set_option maxRecDepth 20000 in
theorem c_X10_isCase (l : Launch) (E : Nat → Nat → Nat) (b : Nat) (mo : Nat → Int → Int) (co : Nat → Int → Int) (k : Int) (hO : OkC co) (hR : RelC co (mo 1)) (gk : Rg k) : Rd l yX10_isCase cX10_isCase 2 (some .boolean) 1 E [.ref b, .int (zI k)] (modelW E b mo) (some (.int (zI (bz (0 ≤ k ∧ k < co 0 0))))) := by
  refine Rd.start (own := RX10) rfl (by decide +kernel) (Nat.le_of_ble_eq_true rfl) ?_
  intro p e s m below meth cd args Q hQ X hr hlk hC hP
  have h_mo := hP
  have hb0 := hO.b0
  have hbw := hO.bw
  refine v_iload_n X dX10_isCase_0 1 rfl 1 rfl ?_
  refine v_iconst X dX10_isCase_1 2 rfl ?_
  refine v_aload_n X dX10_isCase_2 3 rfl 0 rfl ?_
  refine v_getf X hC h_mo inX10 0 rfl rfl 1 (by decide) kf_X10_9 (fun _ h => h) rfl dX10_isCase_3 6 rfl ?_
  refine v_iconst X dX10_isCase_6 7 rfl ?_
  refine v_iald X hC h_mo 1 rfl (by omega) (by omega) (by omega) dX10_isCase_7 8 rfl ?_
  refine v_iconst X dX10_isCase_8 9 rfl ?_
  refine v_isub X dX10_isCase_9 10 rfl ?_
  have hb_1 := hR.s0
  refine v_rdS X hC (ws0 E s.heap) (c_X10_in l E k 0 (mo 1 0 - 1) gk (by omega) (by omega)) kvX10_in ksX10_in kl_X10_43 (As := [.int (zI k), .int (zI 0), .int (zI (mo 1 0 - 1))]) rfl rfl rfl dX10_isCase_10 13 rfl ?_
  show V p l e (rmL 1 0 0) s m args below meth cd Q 2 s.heap [] 0 0 13 [(0, .ref b), (1, .int (zI k))] [.int (zI (bz (0 ≤ k ∧ k ≤ (mo 1 0 - 1))))]
  subst hQ; exact v_zret0 X hr hlk dX10_isCase_13 (bz_iff (by omega))
set_option maxHeartbeats 4000000 in
set_option maxRecDepth 20000 in
theorem c_X10_isWitness (l : Launch) (E : Nat → Nat → Nat) (b : Nat) (mo : Nat → Int → Int) (co : Nat → Int → Int) (w : Int) (hO : OkC co) (hR : RelC co (mo 1)) (gw : Rg w) : Rd l yX10_isWitness cX10_isWitness 2 (some .boolean) 1 E [.ref b, .int (zI w)] (modelW E b mo) (some (.int (zI (bz (0 ≤ w ∧ w < co 0 1))))) := by
  refine Rd.start (own := RX10) rfl (by decide +kernel) (Nat.le_of_ble_eq_true rfl) ?_
  intro p e s m below meth cd args Q hQ X hr hlk hC hP
  have h_mo := hP
  have hb0 := hO.b0
  have hbw := hO.bw
  refine v_iload_n X dX10_isWitness_0 1 rfl 1 rfl ?_
  refine v_iconst X dX10_isWitness_1 2 rfl ?_
  refine v_aload_n X dX10_isWitness_2 3 rfl 0 rfl ?_
  refine v_getf X hC h_mo inX10 0 rfl rfl 1 (by decide) kf_X10_9 (fun _ h => h) rfl dX10_isWitness_3 6 rfl ?_
  refine v_iconst X dX10_isWitness_6 7 rfl ?_
  refine v_iald X hC h_mo 1 rfl (by omega) (by omega) (by omega) dX10_isWitness_7 8 rfl ?_
  refine v_iconst X dX10_isWitness_8 9 rfl ?_
  refine v_isub X dX10_isWitness_9 10 rfl ?_
  have hb_1 := hR.s1
  refine v_rdS X hC (ws0 E s.heap) (c_X10_in l E w 0 (mo 1 1 - 1) gw (by omega) (by omega)) kvX10_in ksX10_in kl_X10_43 (As := [.int (zI w), .int (zI 0), .int (zI (mo 1 1 - 1))]) rfl rfl rfl dX10_isWitness_10 13 rfl ?_
  show V p l e (rmL 1 0 0) s m args below meth cd Q 2 s.heap [] 0 0 13 [(0, .ref b), (1, .int (zI w))] [.int (zI (bz (0 ≤ w ∧ w ≤ (mo 1 1 - 1))))]
  subst hQ; exact v_zret0 X hr hlk dX10_isWitness_13 (bz_iff (by omega))
set_option maxHeartbeats 4000000 in
set_option maxRecDepth 20000 in
theorem c_X10_spokenBy (l : Launch) (E : Nat → Nat → Nat) (b : Nat) (mo : Nat → Int → Int) (co : Nat → Int → Int) (k : Int) (w : Int) (hO : OkC co) (hR : RelC co (mo 1)) (k0 : 0 ≤ k) (k1 : k < co 0 0) (gw : Rg w) : Rd l yX10_spokenBy cX10_spokenBy 4 (some .int) 1 E [.ref b, .int (zI k), .int (zI w)] (modelW E b mo) (some (.int (zI (swC co k w)))) := by
  refine Rd.start (own := RX10) rfl (by decide +kernel) (Nat.le_of_ble_eq_true rfl) ?_
  intro p e s m below meth cd args Q hQ X hr hlk hC hP
  have h_mo := hP
  have hb0 := hO.b0
  have hbw := hO.bw
  have hb6 := hO.b6 k
  refine v_iconst X dX10_spokenBy_0 1 rfl ?_
  refine v_istore_n X dX10_spokenBy_1 2 rfl rfl (by decide) (L' := [(3, .int (zI 0)), (0, .ref b), (1, .int (zI k)), (2, .int (zI w))]) rfl ?_
  refine V_L (L' := [(3, .int (zI 0)), (0, .ref b), (1, .int (zI k)), (2, .int (zI w))]) (LC rfl (LC rfl (LC rfl (LC rfl rfl)))) ?_
  refine up_loop ((co 6 k).toNat) (P := fun (i : Nat) => (∀ j : Int, 0 ≤ j → j < (i : Int) → ¬ (co 7 (k * 6 + j) = w)) → V p l e (rmL 1 0 0) s m args below meth cd Q 4 s.heap [] 0 0 2 [(3, .int (zI (i : Int))), (0, .ref b), (1, .int (zI k)), (2, .int (zI w))] []) (fun i hi_i ih_i hno_i => ?_) (fun j a b => absurd b (by omega))
  refine v_iload_n X dX10_spokenBy_2 3 rfl 0 rfl ?_
  refine v_aload_n X dX10_spokenBy_3 4 rfl 1 rfl ?_
  refine v_iload_n X dX10_spokenBy_4 5 rfl 2 rfl ?_
  refine v_iconst X dX10_spokenBy_5 6 rfl ?_
  refine v_rdV X hC h_mo (c_X10_c_5 l E b mo co k hO hR k0 k1) kvX10_c kiX10_c kl_X10_47 rfl rfl (As := [.int (zI k), .int (zI 5)]) rfl rfl rfl dX10_spokenBy_6 9 rfl ?_
  show V p l e (rmL 1 0 0) s m args below meth cd Q 4 s.heap [] 0 0 9 [(3, .int (zI (i : Int))), (0, .ref b), (1, .int (zI k)), (2, .int (zI w))] [.int (zI (co 6 k)), .int (zI (i : Int))]
  have hb_1 := hO.b6 k
  refine v_icmp_ge X (by omega) (by omega) dX10_spokenBy_9 12 31 rfl (by decide) (fun c_2 => ?_) (fun c_2 => ?_)
  · skip
    refine v_iconst X dX10_spokenBy_31 32 rfl ?_
    subst hQ; exact v_iret0 X hr hlk dX10_spokenBy_32 (by first | exact (firstZ_hit (p := fun j => co 7 (k * 6 + j) = w) (by omega) (by omega) (by assumption) hno_i).symm | exact firstZ_hit (p := fun j => co 7 (k * 6 + j) = w) (by omega) (by omega) (by assumption) hno_i | exact firstZ_none (p := fun j => co 7 (k * 6 + j) = w) (fun j a b => hno_i j a (by omega)))
  · skip
    refine v_aload_n X dX10_spokenBy_12 13 rfl 1 rfl ?_
    refine v_iload_n X dX10_spokenBy_13 14 rfl 2 rfl ?_
    refine v_iload_n X dX10_spokenBy_14 15 rfl 0 rfl ?_
    refine v_iconst X dX10_spokenBy_15 16 rfl ?_
    refine v_rdV X hC h_mo (c_X10_t_0 l E b mo co k (i : Int) hO hR k0 k1 (by omega) (by omega)) kvX10_t kiX10_t kl_X10_51 rfl rfl (As := [.int (zI k), .int (zI (i : Int)), .int (zI 0)]) rfl rfl rfl dX10_spokenBy_16 19 rfl ?_
    show V p l e (rmL 1 0 0) s m args below meth cd Q 4 s.heap [] 0 0 19 [(3, .int (zI (i : Int))), (0, .ref b), (1, .int (zI k)), (2, .int (zI w))] [.int (zI (co 7 (k * 6 + (i : Int))))]
    have hb_3 := hO.b7 (k * 6 + (i : Int))
    refine v_iload_n X dX10_spokenBy_19 20 rfl 3 rfl ?_
    refine v_icmp_ne X (by omega) (by omega) dX10_spokenBy_20 23 25 rfl (by decide) (fun c_4 => ?_) (fun c_4 => ?_)
    · skip
      refine v_iinc X dX10_spokenBy_25 28 rfl 0 rfl (by decide) (L' := [(3, .int (zI ((i : Int) + 1))), (0, .ref b), (1, .int (zI k)), (2, .int (zI w))]) rfl ?_
      refine v_goto X dX10_spokenBy_28 2 (by decide) ?_
      exact V_L (L' := [(3, .int (zI ((i + 1 : Nat) : Int))), (0, .ref b), (1, .int (zI k)), (2, .int (zI w))]) (LC (vz (by omega)) (LC rfl (LC rfl (LC rfl rfl)))) (ih_i (by omega) (fun j a b => by
        rcases (show j < (i : Int) ∨ (i : Int) ≤ j by omega) with q | q
        · exact hno_i j a q
        · have e : j = (i : Int) := by omega
          subst e
          first | assumption | omega))
    · skip
      refine v_iload_n X dX10_spokenBy_23 24 rfl 0 rfl ?_
      subst hQ; exact v_iret0 X hr hlk dX10_spokenBy_24 (by first | exact (firstZ_hit (p := fun j => co 7 (k * 6 + j) = w) (by omega) (by omega) (by assumption) hno_i).symm | exact firstZ_hit (p := fun j => co 7 (k * 6 + j) = w) (by omega) (by omega) (by assumption) hno_i | exact firstZ_none (p := fun j => co 7 (k * 6 + j) = w) (fun j a b => hno_i j a (by omega)))
set_option maxHeartbeats 4000000 in
set_option maxRecDepth 20000 in
theorem c_X10_severity (l : Launch) (E : Nat → Nat → Nat) (b : Nat) (mo : Nat → Int → Int) (co : Nat → Int → Int) (k : Int) (hO : OkC co) (hR : RelC co (mo 1)) (k0 : 0 ≤ k) (k1 : k < co 0 0) : Rd l yX10_severity cX10_severity 2 (some .int) 1 E [.ref b, .int (zI k)] (modelW E b mo) (some (.int (zI (co 2 k + 1)))) := by
  refine Rd.start (own := RX10) rfl (by decide +kernel) (Nat.le_of_ble_eq_true rfl) ?_
  intro p e s m below meth cd args Q hQ X hr hlk hC hP
  have h_mo := hP
  have hb0 := hO.b0
  have hbw := hO.bw
  refine v_aload_n X dX10_severity_0 1 rfl 0 rfl ?_
  refine v_iload_n X dX10_severity_1 2 rfl 1 rfl ?_
  refine v_iconst X dX10_severity_2 3 rfl ?_
  refine v_rdV X hC h_mo (c_X10_c_1 l E b mo co k hO hR k0 k1) kvX10_c kiX10_c kl_X10_47 rfl rfl (As := [.int (zI k), .int (zI 1)]) rfl rfl rfl dX10_severity_3 6 rfl ?_
  show V p l e (rmL 1 0 0) s m args below meth cd Q 2 s.heap [] 0 0 6 [(0, .ref b), (1, .int (zI k))] [.int (zI (co 2 k))]
  have hb_1 := hO.b2 k
  refine v_iconst X dX10_severity_6 7 rfl ?_
  refine v_iadd X dX10_severity_7 8 rfl ?_
  subst hQ; exact v_iret0 X hr hlk dX10_severity_8 rfl
set_option maxHeartbeats 4000000 in
set_option maxRecDepth 20000 in
theorem c_X10_weightAt (l : Launch) (E : Nat → Nat → Nat) (b : Nat) (mo : Nat → Int → Int) (co : Nat → Int → Int) (k : Int) (j : Int) (hO : OkC co) (hR : RelC co (mo 1)) (hI : TsI co) (k0 : 0 ≤ k) (k1 : k < co 0 0) (j0 : 0 ≤ j) (j1 : j < co 6 k) : Rd l yX10_weightAt cX10_weightAt 3 (some .int) 1 E [.ref b, .int (zI k), .int (zI j)] (modelW E b mo) (some (.int (zI (wtC co k j)))) := by
  refine Rd.start (own := RX10) rfl (by decide +kernel) (Nat.le_of_ble_eq_true rfl) ?_
  intro p e s m below meth cd args Q hQ X hr hlk hC hP
  have h_mo := hP
  have hb0 := hO.b0
  have hbw := hO.bw
  refine v_aload_n X dX10_weightAt_0 1 rfl 0 rfl ?_
  refine v_iload_n X dX10_weightAt_1 2 rfl 1 rfl ?_
  refine v_iload_n X dX10_weightAt_2 3 rfl 2 rfl ?_
  refine v_iconst X dX10_weightAt_3 4 rfl ?_
  refine v_rdV X hC h_mo (c_X10_t_2 l E b mo co k j hO hR k0 k1 j0 j1) kvX10_t kiX10_t kl_X10_51 rfl rfl (As := [.int (zI k), .int (zI j), .int (zI 2)]) rfl rfl rfl dX10_weightAt_4 7 rfl ?_
  show V p l e (rmL 1 0 0) s m args below meth cd Q 3 s.heap [] 0 0 7 [(0, .ref b), (1, .int (zI k)), (2, .int (zI j))] [.int (zI (co 9 (k * 8 + co 7 (k * 6 + j))))]
  have hb_1 := hO.b9 (k * 8 + co 7 (k * 6 + j))
  have hb_2 := hO.b7 (k * 6 + j)
  refine v_aload_n X dX10_weightAt_7 8 rfl 0 rfl ?_
  refine v_getf X hC h_mo inX10 0 rfl rfl 1 (by decide) kf_X10_9 (fun _ h => h) rfl dX10_weightAt_8 11 rfl ?_
  refine v_iconst X dX10_weightAt_11 12 rfl ?_
  refine v_aload_n X dX10_weightAt_12 13 rfl 0 rfl ?_
  refine v_iload_n X dX10_weightAt_13 14 rfl 1 rfl ?_
  refine v_iload_n X dX10_weightAt_14 15 rfl 2 rfl ?_
  refine v_iconst X dX10_weightAt_15 16 rfl ?_
  refine v_rdV X hC h_mo (c_X10_t_0 l E b mo co k j hO hR k0 k1 j0 j1) kvX10_t kiX10_t kl_X10_51 rfl rfl (As := [.int (zI k), .int (zI j), .int (zI 0)]) rfl rfl rfl dX10_weightAt_16 19 rfl ?_
  show V p l e (rmL 1 0 0) s m args below meth cd Q 3 s.heap [] 0 0 19 [(0, .ref b), (1, .int (zI k)), (2, .int (zI j))] [.int (zI (co 7 (k * 6 + j))), .int (zI 4), .ref (b + 1), .int (zI (co 9 (k * 8 + co 7 (k * 6 + j))))]
  refine v_iadd X dX10_weightAt_19 20 rfl ?_
  refine v_iald X hC h_mo 1 rfl (by omega) (by omega) (by omega) dX10_weightAt_20 21 rfl ?_
  refine v_imul X dX10_weightAt_21 22 rfl ?_
  subst hQ; exact v_iret0 X hr hlk dX10_weightAt_22 (by rw [hR.w (hO.b7 _).1 (hI.a k0 k1 j0 j1).1]; rfl)
set_option maxHeartbeats 4000000 in
set_option maxRecDepth 20000 in
theorem c_X10_weightOf_1 (l : Launch) (E : Nat → Nat → Nat) (b : Nat) (mo : Nat → Int → Int) (co : Nat → Int → Int) (k : Int) (hO : OkC co) (hR : RelC co (mo 1)) (hI : TsI co) (k0 : 0 ≤ k) (k1 : k < co 0 0) : Rd l yX10_weightOf cX10_weightOf 5 (some .int) 2 E [.ref b, .int (zI k), .int (zI 1)] (modelW E b mo) (some (.int (zI (wsC co k 1)))) := by
  refine Rd.start (own := RX10) rfl (by decide +kernel) (Nat.le_of_ble_eq_true rfl) ?_
  intro p e s m below meth cd args Q hQ X hr hlk hC hP
  have h_mo := hP
  have hb0 := hO.b0
  have hbw := hO.bw
  have hb6 := hO.b6 k
  refine v_iconst X dX10_weightOf_0 1 rfl ?_
  refine v_istore_n X dX10_weightOf_1 2 rfl rfl (by decide) (L' := [(3, .int (zI 0)), (0, .ref b), (1, .int (zI k)), (2, .int (zI 1))]) rfl ?_
  refine v_iconst X dX10_weightOf_2 3 rfl ?_
  refine v_istore X dX10_weightOf_3 5 rfl (by decide) (L' := [(4, .int (zI 0)), (3, .int (zI 0)), (0, .ref b), (1, .int (zI k)), (2, .int (zI 1))]) rfl ?_
  refine V_L (L' := [(4, .int (zI 0)), (3, .int (zI (sumZ (fun j => if sdC co k j = 1 then wtC co k j else 0) 0))), (0, .ref b), (1, .int (zI k)), (2, .int (zI 1))]) (LC rfl (LC (vz (by rfl)) (LC rfl (LC rfl (LC rfl rfl))))) ?_
  refine up_loop ((co 6 k).toNat) (P := fun (i : Nat) => V p l e (rmL 2 0 0) s m args below meth cd Q 5 s.heap [] 0 0 5 [(4, .int (zI (i : Int))), (3, .int (zI (sumZ (fun j => if sdC co k j = 1 then wtC co k j else 0) i))), (0, .ref b), (1, .int (zI k)), (2, .int (zI 1))] []) (fun i hi_i ih_i => ?_)
  refine v_iload X dX10_weightOf_5 7 rfl 0 rfl ?_
  refine v_aload_n X dX10_weightOf_7 8 rfl 2 rfl ?_
  refine v_iload_n X dX10_weightOf_8 9 rfl 3 rfl ?_
  refine v_iconst X dX10_weightOf_9 10 rfl ?_
  refine v_rdV X hC h_mo (c_X10_c_5 l E b mo co k hO hR k0 k1) kvX10_c kiX10_c kl_X10_47 rfl rfl (As := [.int (zI k), .int (zI 5)]) rfl rfl rfl dX10_weightOf_10 13 rfl ?_
  show V p l e (rmL 2 0 0) s m args below meth cd Q 5 s.heap [] 0 0 13 [(4, .int (zI (i : Int))), (3, .int (zI (sumZ (fun j => if sdC co k j = 1 then wtC co k j else 0) i))), (0, .ref b), (1, .int (zI k)), (2, .int (zI 1))] [.int (zI (co 6 k)), .int (zI (i : Int))]
  have hb_1 := hO.b6 k
  refine v_icmp_ge X (by omega) (by omega) dX10_weightOf_13 16 48 rfl (by decide) (fun c_2 => ?_) (fun c_2 => ?_)
  · skip
    refine v_iload_n X dX10_weightOf_48 49 rfl 1 rfl ?_
    subst hQ; exact v_iret0 X hr hlk dX10_weightOf_49 (by rw [show i = (co 6 k).toNat by omega]; rfl)
  · skip
    have hsd := hI.sd (j := (i : Int)) k0 k1 (by omega) (by omega)
    refine v_iload_n X dX10_weightOf_16 17 rfl 1 rfl ?_
    refine v_aload_n X dX10_weightOf_17 18 rfl 2 rfl ?_
    refine v_iload_n X dX10_weightOf_18 19 rfl 3 rfl ?_
    refine v_iload X dX10_weightOf_19 21 rfl 0 rfl ?_
    refine v_iconst X dX10_weightOf_21 22 rfl ?_
    refine v_rdV X hC h_mo (c_X10_t_1 l E b mo co k (i : Int) hO hR k0 k1 (by omega) (by omega)) kvX10_t kiX10_t kl_X10_51 rfl rfl (As := [.int (zI k), .int (zI (i : Int)), .int (zI 1)]) rfl rfl rfl dX10_weightOf_22 25 rfl ?_
    show V p l e (rmL 2 0 0) s m args below meth cd Q 5 s.heap [] 0 0 25 [(4, .int (zI (i : Int))), (3, .int (zI (sumZ (fun j => if sdC co k j = 1 then wtC co k j else 0) i))), (0, .ref b), (1, .int (zI k)), (2, .int (zI 1))] [.int (zI ((sdC co k (i : Int) + 1) / 2)), .int (zI (sumZ (fun j => if sdC co k j = 1 then wtC co k j else 0) i))]
    refine v_iload_n X dX10_weightOf_25 26 rfl 4 rfl ?_
    refine v_icmp_ne X (by omega) (by omega) dX10_weightOf_26 29 39 rfl (by decide) (fun c_3 => ?_) (fun c_3 => ?_)
    · skip
      refine v_iconst X dX10_weightOf_39 40 rfl ?_
      refine v_iadd X dX10_weightOf_40 41 rfl ?_
      refine v_istore_n X dX10_weightOf_41 42 rfl rfl (by decide) (L' := [(3, .int (zI (sumZ (fun j => if sdC co k j = 1 then wtC co k j else 0) i + 0))), (4, .int (zI (i : Int))), (0, .ref b), (1, .int (zI k)), (2, .int (zI 1))]) rfl ?_
      refine v_iinc X dX10_weightOf_42 45 rfl 1 rfl (by decide) (L' := [(4, .int (zI ((i : Int) + 1))), (3, .int (zI (sumZ (fun j => if sdC co k j = 1 then wtC co k j else 0) i + 0))), (0, .ref b), (1, .int (zI k)), (2, .int (zI 1))]) rfl ?_
      refine v_goto X dX10_weightOf_45 5 (by decide) ?_
      exact V_L (L' := [(4, .int (zI ((i + 1 : Nat) : Int))), (3, .int (zI (sumZ (fun j => if sdC co k j = 1 then wtC co k j else 0) (i + 1)))), (0, .ref b), (1, .int (zI k)), (2, .int (zI 1))]) (LC (vz (by omega)) (LC (vz (by first | (rw [sumZ_s, if_pos (c := sdC co k (i : Int) = 1) (by omega)]; done) | (rw [sumZ_s, if_neg (c := sdC co k (i : Int) = 1) (by omega)] <;> omega))) (LC rfl (LC rfl (LC rfl rfl))))) (ih_i (by omega))
    · skip
      refine v_aload_n X dX10_weightOf_29 30 rfl 2 rfl ?_
      refine v_iload_n X dX10_weightOf_30 31 rfl 3 rfl ?_
      refine v_iload X dX10_weightOf_31 33 rfl 0 rfl ?_
      refine v_rdV X hC h_mo (c_X10_weightAt l E b mo co k (i : Int) hO hR hI k0 k1 (by omega) (by omega)) kvX10_weightAt kiX10_weightAt kl_X10_55 rfl rfl (As := [.int (zI k), .int (zI (i : Int))]) rfl rfl rfl dX10_weightOf_33 36 rfl ?_
      show V p l e (rmL 2 0 0) s m args below meth cd Q 5 s.heap [] 0 0 36 [(4, .int (zI (i : Int))), (3, .int (zI (sumZ (fun j => if sdC co k j = 1 then wtC co k j else 0) i))), (0, .ref b), (1, .int (zI k)), (2, .int (zI 1))] [.int (zI (wtC co k (i : Int))), .int (zI (sumZ (fun j => if sdC co k j = 1 then wtC co k j else 0) i))]
      have hf_4 := wtC_b hO k (i : Int)
      refine v_goto X dX10_weightOf_36 40 (by decide) ?_
      refine v_iadd X dX10_weightOf_40 41 rfl ?_
      refine v_istore_n X dX10_weightOf_41 42 rfl rfl (by decide) (L' := [(3, .int (zI (sumZ (fun j => if sdC co k j = 1 then wtC co k j else 0) i + wtC co k (i : Int)))), (4, .int (zI (i : Int))), (0, .ref b), (1, .int (zI k)), (2, .int (zI 1))]) rfl ?_
      refine v_iinc X dX10_weightOf_42 45 rfl 1 rfl (by decide) (L' := [(4, .int (zI ((i : Int) + 1))), (3, .int (zI (sumZ (fun j => if sdC co k j = 1 then wtC co k j else 0) i + wtC co k (i : Int)))), (0, .ref b), (1, .int (zI k)), (2, .int (zI 1))]) rfl ?_
      refine v_goto X dX10_weightOf_45 5 (by decide) ?_
      exact V_L (L' := [(4, .int (zI ((i + 1 : Nat) : Int))), (3, .int (zI (sumZ (fun j => if sdC co k j = 1 then wtC co k j else 0) (i + 1)))), (0, .ref b), (1, .int (zI k)), (2, .int (zI 1))]) (LC (vz (by omega)) (LC (vz (by first | (rw [sumZ_s, if_pos (c := sdC co k (i : Int) = 1) (by omega)]; done) | (rw [sumZ_s, if_neg (c := sdC co k (i : Int) = 1) (by omega)] <;> omega))) (LC rfl (LC rfl (LC rfl rfl))))) (ih_i (by omega))
set_option maxHeartbeats 4000000 in
set_option maxRecDepth 20000 in
theorem c_X10_weightOf_0 (l : Launch) (E : Nat → Nat → Nat) (b : Nat) (mo : Nat → Int → Int) (co : Nat → Int → Int) (k : Int) (hO : OkC co) (hR : RelC co (mo 1)) (hI : TsI co) (k0 : 0 ≤ k) (k1 : k < co 0 0) : Rd l yX10_weightOf cX10_weightOf 5 (some .int) 2 E [.ref b, .int (zI k), .int (zI 0)] (modelW E b mo) (some (.int (zI (wsC co k (-1))))) := by
  refine Rd.start (own := RX10) rfl (by decide +kernel) (Nat.le_of_ble_eq_true rfl) ?_
  intro p e s m below meth cd args Q hQ X hr hlk hC hP
  have h_mo := hP
  have hb0 := hO.b0
  have hbw := hO.bw
  have hb6 := hO.b6 k
  refine v_iconst X dX10_weightOf_0 1 rfl ?_
  refine v_istore_n X dX10_weightOf_1 2 rfl rfl (by decide) (L' := [(3, .int (zI 0)), (0, .ref b), (1, .int (zI k)), (2, .int (zI 0))]) rfl ?_
  refine v_iconst X dX10_weightOf_2 3 rfl ?_
  refine v_istore X dX10_weightOf_3 5 rfl (by decide) (L' := [(4, .int (zI 0)), (3, .int (zI 0)), (0, .ref b), (1, .int (zI k)), (2, .int (zI 0))]) rfl ?_
  refine V_L (L' := [(4, .int (zI 0)), (3, .int (zI (sumZ (fun j => if sdC co k j = (-1) then wtC co k j else 0) 0))), (0, .ref b), (1, .int (zI k)), (2, .int (zI 0))]) (LC rfl (LC (vz (by rfl)) (LC rfl (LC rfl (LC rfl rfl))))) ?_
  refine up_loop ((co 6 k).toNat) (P := fun (i : Nat) => V p l e (rmL 2 0 0) s m args below meth cd Q 5 s.heap [] 0 0 5 [(4, .int (zI (i : Int))), (3, .int (zI (sumZ (fun j => if sdC co k j = (-1) then wtC co k j else 0) i))), (0, .ref b), (1, .int (zI k)), (2, .int (zI 0))] []) (fun i hi_i ih_i => ?_)
  refine v_iload X dX10_weightOf_5 7 rfl 0 rfl ?_
  refine v_aload_n X dX10_weightOf_7 8 rfl 2 rfl ?_
  refine v_iload_n X dX10_weightOf_8 9 rfl 3 rfl ?_
  refine v_iconst X dX10_weightOf_9 10 rfl ?_
  refine v_rdV X hC h_mo (c_X10_c_5 l E b mo co k hO hR k0 k1) kvX10_c kiX10_c kl_X10_47 rfl rfl (As := [.int (zI k), .int (zI 5)]) rfl rfl rfl dX10_weightOf_10 13 rfl ?_
  show V p l e (rmL 2 0 0) s m args below meth cd Q 5 s.heap [] 0 0 13 [(4, .int (zI (i : Int))), (3, .int (zI (sumZ (fun j => if sdC co k j = (-1) then wtC co k j else 0) i))), (0, .ref b), (1, .int (zI k)), (2, .int (zI 0))] [.int (zI (co 6 k)), .int (zI (i : Int))]
  have hb_1 := hO.b6 k
  refine v_icmp_ge X (by omega) (by omega) dX10_weightOf_13 16 48 rfl (by decide) (fun c_2 => ?_) (fun c_2 => ?_)
  · skip
    refine v_iload_n X dX10_weightOf_48 49 rfl 1 rfl ?_
    subst hQ; exact v_iret0 X hr hlk dX10_weightOf_49 (by rw [show i = (co 6 k).toNat by omega]; rfl)
  · skip
    have hsd := hI.sd (j := (i : Int)) k0 k1 (by omega) (by omega)
    refine v_iload_n X dX10_weightOf_16 17 rfl 1 rfl ?_
    refine v_aload_n X dX10_weightOf_17 18 rfl 2 rfl ?_
    refine v_iload_n X dX10_weightOf_18 19 rfl 3 rfl ?_
    refine v_iload X dX10_weightOf_19 21 rfl 0 rfl ?_
    refine v_iconst X dX10_weightOf_21 22 rfl ?_
    refine v_rdV X hC h_mo (c_X10_t_1 l E b mo co k (i : Int) hO hR k0 k1 (by omega) (by omega)) kvX10_t kiX10_t kl_X10_51 rfl rfl (As := [.int (zI k), .int (zI (i : Int)), .int (zI 1)]) rfl rfl rfl dX10_weightOf_22 25 rfl ?_
    show V p l e (rmL 2 0 0) s m args below meth cd Q 5 s.heap [] 0 0 25 [(4, .int (zI (i : Int))), (3, .int (zI (sumZ (fun j => if sdC co k j = (-1) then wtC co k j else 0) i))), (0, .ref b), (1, .int (zI k)), (2, .int (zI 0))] [.int (zI ((sdC co k (i : Int) + 1) / 2)), .int (zI (sumZ (fun j => if sdC co k j = (-1) then wtC co k j else 0) i))]
    refine v_iload_n X dX10_weightOf_25 26 rfl 4 rfl ?_
    refine v_icmp_ne X (by omega) (by omega) dX10_weightOf_26 29 39 rfl (by decide) (fun c_3 => ?_) (fun c_3 => ?_)
    · skip
      refine v_iconst X dX10_weightOf_39 40 rfl ?_
      refine v_iadd X dX10_weightOf_40 41 rfl ?_
      refine v_istore_n X dX10_weightOf_41 42 rfl rfl (by decide) (L' := [(3, .int (zI (sumZ (fun j => if sdC co k j = (-1) then wtC co k j else 0) i + 0))), (4, .int (zI (i : Int))), (0, .ref b), (1, .int (zI k)), (2, .int (zI 0))]) rfl ?_
      refine v_iinc X dX10_weightOf_42 45 rfl 1 rfl (by decide) (L' := [(4, .int (zI ((i : Int) + 1))), (3, .int (zI (sumZ (fun j => if sdC co k j = (-1) then wtC co k j else 0) i + 0))), (0, .ref b), (1, .int (zI k)), (2, .int (zI 0))]) rfl ?_
      refine v_goto X dX10_weightOf_45 5 (by decide) ?_
      exact V_L (L' := [(4, .int (zI ((i + 1 : Nat) : Int))), (3, .int (zI (sumZ (fun j => if sdC co k j = (-1) then wtC co k j else 0) (i + 1)))), (0, .ref b), (1, .int (zI k)), (2, .int (zI 0))]) (LC (vz (by omega)) (LC (vz (by first | (rw [sumZ_s, if_pos (c := sdC co k (i : Int) = (-1)) (by omega)]; done) | (rw [sumZ_s, if_neg (c := sdC co k (i : Int) = (-1)) (by omega)] <;> omega))) (LC rfl (LC rfl (LC rfl rfl))))) (ih_i (by omega))
    · skip
      refine v_aload_n X dX10_weightOf_29 30 rfl 2 rfl ?_
      refine v_iload_n X dX10_weightOf_30 31 rfl 3 rfl ?_
      refine v_iload X dX10_weightOf_31 33 rfl 0 rfl ?_
      refine v_rdV X hC h_mo (c_X10_weightAt l E b mo co k (i : Int) hO hR hI k0 k1 (by omega) (by omega)) kvX10_weightAt kiX10_weightAt kl_X10_55 rfl rfl (As := [.int (zI k), .int (zI (i : Int))]) rfl rfl rfl dX10_weightOf_33 36 rfl ?_
      show V p l e (rmL 2 0 0) s m args below meth cd Q 5 s.heap [] 0 0 36 [(4, .int (zI (i : Int))), (3, .int (zI (sumZ (fun j => if sdC co k j = (-1) then wtC co k j else 0) i))), (0, .ref b), (1, .int (zI k)), (2, .int (zI 0))] [.int (zI (wtC co k (i : Int))), .int (zI (sumZ (fun j => if sdC co k j = (-1) then wtC co k j else 0) i))]
      have hf_4 := wtC_b hO k (i : Int)
      refine v_goto X dX10_weightOf_36 40 (by decide) ?_
      refine v_iadd X dX10_weightOf_40 41 rfl ?_
      refine v_istore_n X dX10_weightOf_41 42 rfl rfl (by decide) (L' := [(3, .int (zI (sumZ (fun j => if sdC co k j = (-1) then wtC co k j else 0) i + wtC co k (i : Int)))), (4, .int (zI (i : Int))), (0, .ref b), (1, .int (zI k)), (2, .int (zI 0))]) rfl ?_
      refine v_iinc X dX10_weightOf_42 45 rfl 1 rfl (by decide) (L' := [(4, .int (zI ((i : Int) + 1))), (3, .int (zI (sumZ (fun j => if sdC co k j = (-1) then wtC co k j else 0) i + wtC co k (i : Int)))), (0, .ref b), (1, .int (zI k)), (2, .int (zI 0))]) rfl ?_
      refine v_goto X dX10_weightOf_45 5 (by decide) ?_
      exact V_L (L' := [(4, .int (zI ((i + 1 : Nat) : Int))), (3, .int (zI (sumZ (fun j => if sdC co k j = (-1) then wtC co k j else 0) (i + 1)))), (0, .ref b), (1, .int (zI k)), (2, .int (zI 0))]) (LC (vz (by omega)) (LC (vz (by first | (rw [sumZ_s, if_pos (c := sdC co k (i : Int) = (-1)) (by omega)]; done) | (rw [sumZ_s, if_neg (c := sdC co k (i : Int) = (-1)) (by omega)] <;> omega))) (LC rfl (LC rfl (LC rfl rfl))))) (ih_i (by omega))
set_option maxHeartbeats 4000000 in
set_option maxRecDepth 20000 in
theorem c_X10_marginOf (l : Launch) (E : Nat → Nat → Nat) (b : Nat) (mo : Nat → Int → Int) (co : Nat → Int → Int) (k : Int) (hO : OkC co) (hR : RelC co (mo 1)) (hI : TsI co) (k0 : 0 ≤ k) (k1 : k < co 0 0) : Rd l yX10_marginOf cX10_marginOf 2 (some .int) 3 E [.ref b, .int (zI k)] (modelW E b mo) (some (.int (zI (mgC co k)))) := by
  refine Rd.start (own := RX10) rfl (by decide +kernel) (Nat.le_of_ble_eq_true rfl) ?_
  intro p e s m below meth cd args Q hQ X hr hlk hC hP
  have h_mo := hP
  have hb0 := hO.b0
  have hbw := hO.bw
  refine v_aload_n X dX10_marginOf_0 1 rfl 0 rfl ?_
  refine v_iload_n X dX10_marginOf_1 2 rfl 1 rfl ?_
  refine v_iconst X dX10_marginOf_2 3 rfl ?_
  refine v_rdV X hC h_mo (c_X10_weightOf_1 l E b mo co k hO hR hI k0 k1) kvX10_weightOf kiX10_weightOf kl_X10_58 rfl rfl (As := [.int (zI k), .int (zI 1)]) rfl rfl rfl dX10_marginOf_3 6 rfl ?_
  show V p l e (rmL 3 0 0) s m args below meth cd Q 2 s.heap [] 0 0 6 [(0, .ref b), (1, .int (zI k))] [.int (zI (wsC co k 1))]
  have hf_1 := wsC_b hO k 1
  refine v_aload_n X dX10_marginOf_6 7 rfl 0 rfl ?_
  refine v_iload_n X dX10_marginOf_7 8 rfl 1 rfl ?_
  refine v_iconst X dX10_marginOf_8 9 rfl ?_
  refine v_rdV X hC h_mo (c_X10_weightOf_0 l E b mo co k hO hR hI k0 k1) kvX10_weightOf kiX10_weightOf kl_X10_58 rfl rfl (As := [.int (zI k), .int (zI 0)]) rfl rfl rfl dX10_marginOf_9 12 rfl ?_
  show V p l e (rmL 3 0 0) s m args below meth cd Q 2 s.heap [] 0 0 12 [(0, .ref b), (1, .int (zI k))] [.int (zI (wsC co k (-1))), .int (zI (wsC co k 1))]
  have hf_2 := wsC_b hO k (-1)
  refine v_isub X dX10_marginOf_12 13 rfl ?_
  refine v_iconst X dX10_marginOf_13 14 rfl ?_
  refine v_aload_n X dX10_marginOf_14 15 rfl 0 rfl ?_
  refine v_iload_n X dX10_marginOf_15 16 rfl 1 rfl ?_
  refine v_rdV X hC h_mo (c_X10_severity l E b mo co k hO hR k0 k1) kvX10_severity kiX10_severity kl_X10_61 rfl rfl (As := [.int (zI k)]) rfl rfl rfl dX10_marginOf_16 19 rfl ?_
  show V p l e (rmL 3 0 0) s m args below meth cd Q 2 s.heap [] 0 0 19 [(0, .ref b), (1, .int (zI k))] [.int (zI (co 2 k + 1)), .int (zI 2), .int (zI (wsC co k 1 - wsC co k (-1)))]
  have hb_3 := hO.b2 k
  refine v_imul X dX10_marginOf_19 20 rfl ?_
  refine v_isub X dX10_marginOf_20 21 rfl ?_
  subst hQ; exact v_iret0 X hr hlk dX10_marginOf_21 (by exact (mgC_split hO hI k0 k1).symm)
set_option maxHeartbeats 4000000 in
set_option maxRecDepth 20000 in
theorem c_X10_findCase (l : Launch) (E : Nat → Nat → Nat) (b : Nat) (mo : Nat → Int → Int) (co : Nat → Int → Int) (d : Int) (o : Int) (hO : OkC co) (hR : RelC co (mo 1)) (gd : Rg d) (go : Rg o) : Rd l yX10_findCase cX10_findCase 4 (some .int) 1 E [.ref b, .int (zI d), .int (zI o)] (modelW E b mo) (some (.int (zI (firstZ (fun j => co 1 j = d ∧ co 2 j = o) (co 0 0).toNat)))) := by
  refine Rd.start (own := RX10) rfl (by decide +kernel) (Nat.le_of_ble_eq_true rfl) ?_
  intro p e s m below meth cd args Q hQ X hr hlk hC hP
  have h_mo := hP
  have hb0 := hO.b0
  have hbw := hO.bw
  refine v_iconst X dX10_findCase_0 1 rfl ?_
  refine v_istore_n X dX10_findCase_1 2 rfl rfl (by decide) (L' := [(3, .int (zI 0)), (0, .ref b), (1, .int (zI d)), (2, .int (zI o))]) rfl ?_
  refine V_L (L' := [(3, .int (zI 0)), (0, .ref b), (1, .int (zI d)), (2, .int (zI o))]) (LC rfl (LC rfl (LC rfl (LC rfl rfl)))) ?_
  refine up_loop ((co 0 0).toNat) (P := fun (i : Nat) => (∀ j : Int, 0 ≤ j → j < (i : Int) → ¬ (co 1 j = d ∧ co 2 j = o)) → V p l e (rmL 1 0 0) s m args below meth cd Q 4 s.heap [] 0 0 2 [(3, .int (zI (i : Int))), (0, .ref b), (1, .int (zI d)), (2, .int (zI o))] []) (fun i hi_i ih_i hno_i => ?_) (fun j a b => absurd b (by omega))
  refine v_iload_n X dX10_findCase_2 3 rfl 0 rfl ?_
  refine v_aload_n X dX10_findCase_3 4 rfl 1 rfl ?_
  refine v_getf X hC h_mo inX10 0 rfl rfl 1 (by decide) kf_X10_9 (fun _ h => h) rfl dX10_findCase_4 7 rfl ?_
  refine v_iconst X dX10_findCase_7 8 rfl ?_
  refine v_iald X hC h_mo 1 rfl (by omega) (by omega) (by omega) dX10_findCase_8 9 rfl ?_
  have hb_2 := hR.s0
  refine v_icmp_ge X (by omega) (by omega) dX10_findCase_9 12 40 rfl (by decide) (fun c_1 => ?_) (fun c_1 => ?_)
  · skip
    refine v_iconst X dX10_findCase_40 41 rfl ?_
    subst hQ; exact v_iret0 X hr hlk dX10_findCase_41 (by first | exact (firstZ_hit (p := fun j => co 1 j = d ∧ co 2 j = o) (by omega) (by omega) (by omega) hno_i) | exact (firstZ_none (p := fun j => co 1 j = d ∧ co 2 j = o) (fun j a b => hno_i j a (by omega))))
  · skip
    refine v_aload_n X dX10_findCase_12 13 rfl 1 rfl ?_
    refine v_iload_n X dX10_findCase_13 14 rfl 0 rfl ?_
    refine v_iconst X dX10_findCase_14 15 rfl ?_
    have hb_3 := hO.b0
    refine v_rdV X hC h_mo (c_X10_c_0 l E b mo co (i : Int) hO hR (by omega) (by omega)) kvX10_c kiX10_c kl_X10_47 rfl rfl (As := [.int (zI (i : Int)), .int (zI 0)]) rfl rfl rfl dX10_findCase_15 18 rfl ?_
    show V p l e (rmL 1 0 0) s m args below meth cd Q 4 s.heap [] 0 0 18 [(3, .int (zI (i : Int))), (0, .ref b), (1, .int (zI d)), (2, .int (zI o))] [.int (zI (co 1 (i : Int)))]
    have hb_4 := hO.b1 (i : Int)
    refine v_iload_n X dX10_findCase_18 19 rfl 2 rfl ?_
    refine v_icmp_ne X (by omega) (by omega) dX10_findCase_19 22 34 rfl (by decide) (fun c_5 => ?_) (fun c_5 => ?_)
    · skip
      refine v_iinc X dX10_findCase_34 37 rfl 0 rfl (by decide) (L' := [(3, .int (zI ((i : Int) + 1))), (0, .ref b), (1, .int (zI d)), (2, .int (zI o))]) rfl ?_
      refine v_goto X dX10_findCase_37 2 (by decide) ?_
      exact V_L (L' := [(3, .int (zI ((i + 1 : Nat) : Int))), (0, .ref b), (1, .int (zI d)), (2, .int (zI o))]) (LC (vz (by omega)) (LC rfl (LC rfl (LC rfl rfl)))) (ih_i (by omega) (fun j a b => by
        rcases (show j < (i : Int) ∨ (i : Int) ≤ j by omega) with q | q
        · exact hno_i j a q
        · have e : j = (i : Int) := by omega
          subst e
          first | assumption | omega))
    · skip
      refine v_aload_n X dX10_findCase_22 23 rfl 1 rfl ?_
      refine v_iload_n X dX10_findCase_23 24 rfl 0 rfl ?_
      refine v_iconst X dX10_findCase_24 25 rfl ?_
      refine v_rdV X hC h_mo (c_X10_c_1 l E b mo co (i : Int) hO hR (by omega) (by omega)) kvX10_c kiX10_c kl_X10_47 rfl rfl (As := [.int (zI (i : Int)), .int (zI 1)]) rfl rfl rfl dX10_findCase_25 28 rfl ?_
      show V p l e (rmL 1 0 0) s m args below meth cd Q 4 s.heap [] 0 0 28 [(3, .int (zI (i : Int))), (0, .ref b), (1, .int (zI d)), (2, .int (zI o))] [.int (zI (co 2 (i : Int)))]
      have hb_6 := hO.b2 (i : Int)
      refine v_iload_n X dX10_findCase_28 29 rfl 3 rfl ?_
      refine v_icmp_ne X (by omega) (by omega) dX10_findCase_29 32 34 rfl (by decide) (fun c_7 => ?_) (fun c_7 => ?_)
      · skip
        refine v_iinc X dX10_findCase_34 37 rfl 0 rfl (by decide) (L' := [(3, .int (zI ((i : Int) + 1))), (0, .ref b), (1, .int (zI d)), (2, .int (zI o))]) rfl ?_
        refine v_goto X dX10_findCase_37 2 (by decide) ?_
        exact V_L (L' := [(3, .int (zI ((i + 1 : Nat) : Int))), (0, .ref b), (1, .int (zI d)), (2, .int (zI o))]) (LC (vz (by omega)) (LC rfl (LC rfl (LC rfl rfl)))) (ih_i (by omega) (fun j a b => by
          rcases (show j < (i : Int) ∨ (i : Int) ≤ j by omega) with q | q
          · exact hno_i j a q
          · have e : j = (i : Int) := by omega
            subst e
            first | assumption | omega))
      · skip
        refine v_iload_n X dX10_findCase_32 33 rfl 0 rfl ?_
        subst hQ; exact v_iret0 X hr hlk dX10_findCase_33 (by first | exact (firstZ_hit (p := fun j => co 1 j = d ∧ co 2 j = o) (by omega) (by omega) (by omega) hno_i) | exact (firstZ_none (p := fun j => co 1 j = d ∧ co 2 j = o) (fun j a b => hno_i j a (by omega))))
set_option maxHeartbeats 4000000 in
set_option maxRecDepth 20000 in
theorem c_X10_isDefendant (l : Launch) (E : Nat → Nat → Nat) (x : Int) (gx : Rg x) : Rd l yX10_isDefendant cX10_isDefendant 1 (some .boolean) 1 E [.int (zI x)] ([]) (some (.int (zI (bz (0 ≤ x ∧ x < 6))))) := by
  refine Rd.start (own := RX10) rfl (by decide +kernel) (Nat.le_of_ble_eq_true rfl) ?_
  intro p e s m below meth cd args Q hQ X hr hlk hC hP
  refine v_iload_n X dX10_isDefendant_0 1 rfl 0 rfl ?_
  refine v_iconst X dX10_isDefendant_1 2 rfl ?_
  refine v_iconst X dX10_isDefendant_2 3 rfl ?_
  refine v_rdS X hC (ws0 E s.heap) (c_X10_in l E x 0 5 gx (by omega) (by omega)) kvX10_in ksX10_in kl_X10_43 (As := [.int (zI x), .int (zI 0), .int (zI 5)]) rfl rfl rfl dX10_isDefendant_3 6 rfl ?_
  show V p l e (rmL 1 0 0) s m args below meth cd Q 1 s.heap [] 0 0 6 [(0, .int (zI x))] [.int (zI (bz (0 ≤ x ∧ x ≤ 5)))]
  subst hQ; exact v_zret0 X hr hlk dX10_isDefendant_6 (bz_iff (by omega))
set_option maxHeartbeats 4000000 in
set_option maxRecDepth 20000 in
theorem c_X10_isOffence (l : Launch) (E : Nat → Nat → Nat) (x : Int) (gx : Rg x) : Rd l yX10_isOffence cX10_isOffence 1 (some .boolean) 1 E [.int (zI x)] ([]) (some (.int (zI (bz (0 ≤ x ∧ x < 5))))) := by
  refine Rd.start (own := RX10) rfl (by decide +kernel) (Nat.le_of_ble_eq_true rfl) ?_
  intro p e s m below meth cd args Q hQ X hr hlk hC hP
  refine v_iload_n X dX10_isOffence_0 1 rfl 0 rfl ?_
  refine v_iconst X dX10_isOffence_1 2 rfl ?_
  refine v_iconst X dX10_isOffence_2 3 rfl ?_
  refine v_rdS X hC (ws0 E s.heap) (c_X10_in l E x 0 4 gx (by omega) (by omega)) kvX10_in ksX10_in kl_X10_43 (As := [.int (zI x), .int (zI 0), .int (zI 4)]) rfl rfl rfl dX10_isOffence_3 6 rfl ?_
  show V p l e (rmL 1 0 0) s m args below meth cd Q 1 s.heap [] 0 0 6 [(0, .int (zI x))] [.int (zI (bz (0 ≤ x ∧ x ≤ 4)))]
  subst hQ; exact v_zret0 X hr hlk dX10_isOffence_6 (bz_iff (by omega))
set_option maxHeartbeats 4000000 in
set_option maxRecDepth 20000 in
theorem c_X10_inPhase_0 (l : Launch) (E : Nat → Nat → Nat) (b : Nat) (mo : Nat → Int → Int) (co : Nat → Int → Int) (hO : OkC co) (hR : RelC co (mo 1)) : Rd l yX10_inPhase cX10_inPhase 5 (some .int) 1 E [.ref b, .int (zI 0), .int (zI (-1))] (modelW E b mo) (some (.int (zI (sumZ (fun j => bz (co 3 j = 0)) (co 0 0).toNat)))) := by
  refine Rd.start (own := RX10) rfl (by decide +kernel) (Nat.le_of_ble_eq_true rfl) ?_
  intro p e s m below meth cd args Q hQ X hr hlk hC hP
  have h_mo := hP
  have hb0 := hO.b0
  have hbw := hO.bw
  refine v_iconst X dX10_inPhase_0 1 rfl ?_
  refine v_istore_n X dX10_inPhase_1 2 rfl rfl (by decide) (L' := [(3, .int (zI 0)), (0, .ref b), (1, .int (zI 0)), (2, .int (zI (-1)))]) rfl ?_
  refine v_iconst X dX10_inPhase_2 3 rfl ?_
  refine v_istore X dX10_inPhase_3 5 rfl (by decide) (L' := [(4, .int (zI 0)), (3, .int (zI 0)), (0, .ref b), (1, .int (zI 0)), (2, .int (zI (-1)))]) rfl ?_
  refine V_L (L' := [(4, .int (zI 0)), (3, .int (zI (sumZ (fun j => bz (co 3 j = 0)) 0))), (0, .ref b), (1, .int (zI 0)), (2, .int (zI (-1)))]) (LC rfl (LC (vz (by rfl)) (LC rfl (LC rfl (LC rfl rfl))))) ?_
  refine up_loop ((co 0 0).toNat) (P := fun (i : Nat) => V p l e (rmL 1 0 0) s m args below meth cd Q 5 s.heap [] 0 0 5 [(4, .int (zI (i : Int))), (3, .int (zI (sumZ (fun j => bz (co 3 j = 0)) i))), (0, .ref b), (1, .int (zI 0)), (2, .int (zI (-1)))] []) (fun i hi_i ih_i => ?_)
  refine v_iload X dX10_inPhase_5 7 rfl 0 rfl ?_
  refine v_aload_n X dX10_inPhase_7 8 rfl 2 rfl ?_
  refine v_getf X hC h_mo inX10 0 rfl rfl 1 (by decide) kf_X10_9 (fun _ h => h) rfl dX10_inPhase_8 11 rfl ?_
  refine v_iconst X dX10_inPhase_11 12 rfl ?_
  refine v_iald X hC h_mo 1 rfl (by omega) (by omega) (by omega) dX10_inPhase_12 13 rfl ?_
  have hb_2 := hR.s0
  refine v_icmp_ge X (by omega) (by omega) dX10_inPhase_13 16 56 rfl (by decide) (fun c_1 => ?_) (fun c_1 => ?_)
  · skip
    refine v_iload_n X dX10_inPhase_56 57 rfl 1 rfl ?_
    subst hQ; exact v_iret0 X hr hlk dX10_inPhase_57 (by rw [show i = (co 0 0).toNat by omega])
  · skip
    refine v_iload_n X dX10_inPhase_16 17 rfl 1 rfl ?_
    refine v_aload_n X dX10_inPhase_17 18 rfl 2 rfl ?_
    refine v_iload X dX10_inPhase_18 20 rfl 0 rfl ?_
    refine v_iconst X dX10_inPhase_20 21 rfl ?_
    have hb_3 := hO.b0
    refine v_rdV X hC h_mo (c_X10_c_2 l E b mo co (i : Int) hO hR (by omega) (by omega)) kvX10_c kiX10_c kl_X10_47 rfl rfl (As := [.int (zI (i : Int)), .int (zI 2)]) rfl rfl rfl dX10_inPhase_21 24 rfl ?_
    show V p l e (rmL 1 0 0) s m args below meth cd Q 5 s.heap [] 0 0 24 [(4, .int (zI (i : Int))), (3, .int (zI (sumZ (fun j => bz (co 3 j = 0)) i))), (0, .ref b), (1, .int (zI 0)), (2, .int (zI (-1)))] [.int (zI (co 3 (i : Int))), .int (zI (sumZ (fun j => bz (co 3 j = 0)) i))]
    have hb_4 := hO.b3 (i : Int)
    refine v_iload_n X dX10_inPhase_24 25 rfl 3 rfl ?_
    refine v_icmp_ne X (by omega) (by omega) dX10_inPhase_25 28 47 rfl (by decide) (fun c_5 => ?_) (fun c_5 => ?_)
    · skip
      refine v_iconst X dX10_inPhase_47 48 rfl ?_
      refine v_iadd X dX10_inPhase_48 49 rfl ?_
      refine v_istore_n X dX10_inPhase_49 50 rfl rfl (by decide) (L' := [(3, .int (zI (sumZ (fun j => bz (co 3 j = 0)) i + 0))), (4, .int (zI (i : Int))), (0, .ref b), (1, .int (zI 0)), (2, .int (zI (-1)))]) rfl ?_
      refine v_iinc X dX10_inPhase_50 53 rfl 1 rfl (by decide) (L' := [(4, .int (zI ((i : Int) + 1))), (3, .int (zI (sumZ (fun j => bz (co 3 j = 0)) i + 0))), (0, .ref b), (1, .int (zI 0)), (2, .int (zI (-1)))]) rfl ?_
      refine v_goto X dX10_inPhase_53 5 (by decide) ?_
      exact V_L (L' := [(4, .int (zI ((i + 1 : Nat) : Int))), (3, .int (zI (sumZ (fun j => bz (co 3 j = 0)) (i + 1)))), (0, .ref b), (1, .int (zI 0)), (2, .int (zI (-1)))]) (LC (vz (by omega)) (LC (vz (by first | rw [sumZ_s, bz_t (φ := co 3 (i : Int) = 0) (by first | assumption | omega)] | (rw [sumZ_s, bz_f (φ := co 3 (i : Int) = 0) (by first | assumption | omega)] <;> omega))) (LC rfl (LC rfl (LC rfl rfl))))) (ih_i (by omega))
    · skip
      refine v_iload_n X dX10_inPhase_28 29 rfl 4 rfl ?_
      refine v_if_lt X (by omega) dX10_inPhase_29 32 43 rfl (by decide) (fun c_6 => ?_) (fun c_6 => ?_)
      · skip
        refine v_iconst X dX10_inPhase_43 44 rfl ?_
        refine v_goto X dX10_inPhase_44 48 (by decide) ?_
        refine v_iadd X dX10_inPhase_48 49 rfl ?_
        refine v_istore_n X dX10_inPhase_49 50 rfl rfl (by decide) (L' := [(3, .int (zI (sumZ (fun j => bz (co 3 j = 0)) i + 1))), (4, .int (zI (i : Int))), (0, .ref b), (1, .int (zI 0)), (2, .int (zI (-1)))]) rfl ?_
        refine v_iinc X dX10_inPhase_50 53 rfl 1 rfl (by decide) (L' := [(4, .int (zI ((i : Int) + 1))), (3, .int (zI (sumZ (fun j => bz (co 3 j = 0)) i + 1))), (0, .ref b), (1, .int (zI 0)), (2, .int (zI (-1)))]) rfl ?_
        refine v_goto X dX10_inPhase_53 5 (by decide) ?_
        exact V_L (L' := [(4, .int (zI ((i + 1 : Nat) : Int))), (3, .int (zI (sumZ (fun j => bz (co 3 j = 0)) (i + 1)))), (0, .ref b), (1, .int (zI 0)), (2, .int (zI (-1)))]) (LC (vz (by omega)) (LC (vz (by first | rw [sumZ_s, bz_t (φ := co 3 (i : Int) = 0) (by first | assumption | omega)] | (rw [sumZ_s, bz_f (φ := co 3 (i : Int) = 0) (by first | assumption | omega)] <;> omega))) (LC rfl (LC rfl (LC rfl rfl))))) (ih_i (by omega))
      · skip
        exfalso; omega
set_option maxHeartbeats 4000000 in
set_option maxRecDepth 20000 in
theorem c_X10_inPhase_2 (l : Launch) (E : Nat → Nat → Nat) (b : Nat) (mo : Nat → Int → Int) (co : Nat → Int → Int) (hO : OkC co) (hR : RelC co (mo 1)) : Rd l yX10_inPhase cX10_inPhase 5 (some .int) 1 E [.ref b, .int (zI 2), .int (zI (-1))] (modelW E b mo) (some (.int (zI (sumZ (fun j => bz (co 3 j = 2)) (co 0 0).toNat)))) := by
  refine Rd.start (own := RX10) rfl (by decide +kernel) (Nat.le_of_ble_eq_true rfl) ?_
  intro p e s m below meth cd args Q hQ X hr hlk hC hP
  have h_mo := hP
  have hb0 := hO.b0
  have hbw := hO.bw
  refine v_iconst X dX10_inPhase_0 1 rfl ?_
  refine v_istore_n X dX10_inPhase_1 2 rfl rfl (by decide) (L' := [(3, .int (zI 0)), (0, .ref b), (1, .int (zI 2)), (2, .int (zI (-1)))]) rfl ?_
  refine v_iconst X dX10_inPhase_2 3 rfl ?_
  refine v_istore X dX10_inPhase_3 5 rfl (by decide) (L' := [(4, .int (zI 0)), (3, .int (zI 0)), (0, .ref b), (1, .int (zI 2)), (2, .int (zI (-1)))]) rfl ?_
  refine V_L (L' := [(4, .int (zI 0)), (3, .int (zI (sumZ (fun j => bz (co 3 j = 2)) 0))), (0, .ref b), (1, .int (zI 2)), (2, .int (zI (-1)))]) (LC rfl (LC (vz (by rfl)) (LC rfl (LC rfl (LC rfl rfl))))) ?_
  refine up_loop ((co 0 0).toNat) (P := fun (i : Nat) => V p l e (rmL 1 0 0) s m args below meth cd Q 5 s.heap [] 0 0 5 [(4, .int (zI (i : Int))), (3, .int (zI (sumZ (fun j => bz (co 3 j = 2)) i))), (0, .ref b), (1, .int (zI 2)), (2, .int (zI (-1)))] []) (fun i hi_i ih_i => ?_)
  refine v_iload X dX10_inPhase_5 7 rfl 0 rfl ?_
  refine v_aload_n X dX10_inPhase_7 8 rfl 2 rfl ?_
  refine v_getf X hC h_mo inX10 0 rfl rfl 1 (by decide) kf_X10_9 (fun _ h => h) rfl dX10_inPhase_8 11 rfl ?_
  refine v_iconst X dX10_inPhase_11 12 rfl ?_
  refine v_iald X hC h_mo 1 rfl (by omega) (by omega) (by omega) dX10_inPhase_12 13 rfl ?_
  have hb_2 := hR.s0
  refine v_icmp_ge X (by omega) (by omega) dX10_inPhase_13 16 56 rfl (by decide) (fun c_1 => ?_) (fun c_1 => ?_)
  · skip
    refine v_iload_n X dX10_inPhase_56 57 rfl 1 rfl ?_
    subst hQ; exact v_iret0 X hr hlk dX10_inPhase_57 (by rw [show i = (co 0 0).toNat by omega])
  · skip
    refine v_iload_n X dX10_inPhase_16 17 rfl 1 rfl ?_
    refine v_aload_n X dX10_inPhase_17 18 rfl 2 rfl ?_
    refine v_iload X dX10_inPhase_18 20 rfl 0 rfl ?_
    refine v_iconst X dX10_inPhase_20 21 rfl ?_
    have hb_3 := hO.b0
    refine v_rdV X hC h_mo (c_X10_c_2 l E b mo co (i : Int) hO hR (by omega) (by omega)) kvX10_c kiX10_c kl_X10_47 rfl rfl (As := [.int (zI (i : Int)), .int (zI 2)]) rfl rfl rfl dX10_inPhase_21 24 rfl ?_
    show V p l e (rmL 1 0 0) s m args below meth cd Q 5 s.heap [] 0 0 24 [(4, .int (zI (i : Int))), (3, .int (zI (sumZ (fun j => bz (co 3 j = 2)) i))), (0, .ref b), (1, .int (zI 2)), (2, .int (zI (-1)))] [.int (zI (co 3 (i : Int))), .int (zI (sumZ (fun j => bz (co 3 j = 2)) i))]
    have hb_4 := hO.b3 (i : Int)
    refine v_iload_n X dX10_inPhase_24 25 rfl 3 rfl ?_
    refine v_icmp_ne X (by omega) (by omega) dX10_inPhase_25 28 47 rfl (by decide) (fun c_5 => ?_) (fun c_5 => ?_)
    · skip
      refine v_iconst X dX10_inPhase_47 48 rfl ?_
      refine v_iadd X dX10_inPhase_48 49 rfl ?_
      refine v_istore_n X dX10_inPhase_49 50 rfl rfl (by decide) (L' := [(3, .int (zI (sumZ (fun j => bz (co 3 j = 2)) i + 0))), (4, .int (zI (i : Int))), (0, .ref b), (1, .int (zI 2)), (2, .int (zI (-1)))]) rfl ?_
      refine v_iinc X dX10_inPhase_50 53 rfl 1 rfl (by decide) (L' := [(4, .int (zI ((i : Int) + 1))), (3, .int (zI (sumZ (fun j => bz (co 3 j = 2)) i + 0))), (0, .ref b), (1, .int (zI 2)), (2, .int (zI (-1)))]) rfl ?_
      refine v_goto X dX10_inPhase_53 5 (by decide) ?_
      exact V_L (L' := [(4, .int (zI ((i + 1 : Nat) : Int))), (3, .int (zI (sumZ (fun j => bz (co 3 j = 2)) (i + 1)))), (0, .ref b), (1, .int (zI 2)), (2, .int (zI (-1)))]) (LC (vz (by omega)) (LC (vz (by first | rw [sumZ_s, bz_t (φ := co 3 (i : Int) = 2) (by first | assumption | omega)] | (rw [sumZ_s, bz_f (φ := co 3 (i : Int) = 2) (by first | assumption | omega)] <;> omega))) (LC rfl (LC rfl (LC rfl rfl))))) (ih_i (by omega))
    · skip
      refine v_iload_n X dX10_inPhase_28 29 rfl 4 rfl ?_
      refine v_if_lt X (by omega) dX10_inPhase_29 32 43 rfl (by decide) (fun c_6 => ?_) (fun c_6 => ?_)
      · skip
        refine v_iconst X dX10_inPhase_43 44 rfl ?_
        refine v_goto X dX10_inPhase_44 48 (by decide) ?_
        refine v_iadd X dX10_inPhase_48 49 rfl ?_
        refine v_istore_n X dX10_inPhase_49 50 rfl rfl (by decide) (L' := [(3, .int (zI (sumZ (fun j => bz (co 3 j = 2)) i + 1))), (4, .int (zI (i : Int))), (0, .ref b), (1, .int (zI 2)), (2, .int (zI (-1)))]) rfl ?_
        refine v_iinc X dX10_inPhase_50 53 rfl 1 rfl (by decide) (L' := [(4, .int (zI ((i : Int) + 1))), (3, .int (zI (sumZ (fun j => bz (co 3 j = 2)) i + 1))), (0, .ref b), (1, .int (zI 2)), (2, .int (zI (-1)))]) rfl ?_
        refine v_goto X dX10_inPhase_53 5 (by decide) ?_
        exact V_L (L' := [(4, .int (zI ((i + 1 : Nat) : Int))), (3, .int (zI (sumZ (fun j => bz (co 3 j = 2)) (i + 1)))), (0, .ref b), (1, .int (zI 2)), (2, .int (zI (-1)))]) (LC (vz (by omega)) (LC (vz (by first | rw [sumZ_s, bz_t (φ := co 3 (i : Int) = 2) (by first | assumption | omega)] | (rw [sumZ_s, bz_f (φ := co 3 (i : Int) = 2) (by first | assumption | omega)] <;> omega))) (LC rfl (LC rfl (LC rfl rfl))))) (ih_i (by omega))
      · skip
        exfalso; omega
set_option maxHeartbeats 4000000 in
set_option maxRecDepth 20000 in
theorem c_X10_inPhase_1g (l : Launch) (E : Nat → Nat → Nat) (b : Nat) (mo : Nat → Int → Int) (co : Nat → Int → Int) (hO : OkC co) (hR : RelC co (mo 1)) : Rd l yX10_inPhase cX10_inPhase 5 (some .int) 1 E [.ref b, .int (zI 1), .int (zI 1)] (modelW E b mo) (some (.int (zI (sumZ (fun j => bz (co 3 j = 1 ∧ co 4 j = 1)) (co 0 0).toNat)))) := by
  refine Rd.start (own := RX10) rfl (by decide +kernel) (Nat.le_of_ble_eq_true rfl) ?_
  intro p e s m below meth cd args Q hQ X hr hlk hC hP
  have h_mo := hP
  have hb0 := hO.b0
  have hbw := hO.bw
  refine v_iconst X dX10_inPhase_0 1 rfl ?_
  refine v_istore_n X dX10_inPhase_1 2 rfl rfl (by decide) (L' := [(3, .int (zI 0)), (0, .ref b), (1, .int (zI 1)), (2, .int (zI 1))]) rfl ?_
  refine v_iconst X dX10_inPhase_2 3 rfl ?_
  refine v_istore X dX10_inPhase_3 5 rfl (by decide) (L' := [(4, .int (zI 0)), (3, .int (zI 0)), (0, .ref b), (1, .int (zI 1)), (2, .int (zI 1))]) rfl ?_
  refine V_L (L' := [(4, .int (zI 0)), (3, .int (zI (sumZ (fun j => bz (co 3 j = 1 ∧ co 4 j = 1)) 0))), (0, .ref b), (1, .int (zI 1)), (2, .int (zI 1))]) (LC rfl (LC (vz (by rfl)) (LC rfl (LC rfl (LC rfl rfl))))) ?_
  refine up_loop ((co 0 0).toNat) (P := fun (i : Nat) => V p l e (rmL 1 0 0) s m args below meth cd Q 5 s.heap [] 0 0 5 [(4, .int (zI (i : Int))), (3, .int (zI (sumZ (fun j => bz (co 3 j = 1 ∧ co 4 j = 1)) i))), (0, .ref b), (1, .int (zI 1)), (2, .int (zI 1))] []) (fun i hi_i ih_i => ?_)
  refine v_iload X dX10_inPhase_5 7 rfl 0 rfl ?_
  refine v_aload_n X dX10_inPhase_7 8 rfl 2 rfl ?_
  refine v_getf X hC h_mo inX10 0 rfl rfl 1 (by decide) kf_X10_9 (fun _ h => h) rfl dX10_inPhase_8 11 rfl ?_
  refine v_iconst X dX10_inPhase_11 12 rfl ?_
  refine v_iald X hC h_mo 1 rfl (by omega) (by omega) (by omega) dX10_inPhase_12 13 rfl ?_
  have hb_2 := hR.s0
  refine v_icmp_ge X (by omega) (by omega) dX10_inPhase_13 16 56 rfl (by decide) (fun c_1 => ?_) (fun c_1 => ?_)
  · skip
    refine v_iload_n X dX10_inPhase_56 57 rfl 1 rfl ?_
    subst hQ; exact v_iret0 X hr hlk dX10_inPhase_57 (by rw [show i = (co 0 0).toNat by omega])
  · skip
    refine v_iload_n X dX10_inPhase_16 17 rfl 1 rfl ?_
    refine v_aload_n X dX10_inPhase_17 18 rfl 2 rfl ?_
    refine v_iload X dX10_inPhase_18 20 rfl 0 rfl ?_
    refine v_iconst X dX10_inPhase_20 21 rfl ?_
    have hb_3 := hO.b0
    refine v_rdV X hC h_mo (c_X10_c_2 l E b mo co (i : Int) hO hR (by omega) (by omega)) kvX10_c kiX10_c kl_X10_47 rfl rfl (As := [.int (zI (i : Int)), .int (zI 2)]) rfl rfl rfl dX10_inPhase_21 24 rfl ?_
    show V p l e (rmL 1 0 0) s m args below meth cd Q 5 s.heap [] 0 0 24 [(4, .int (zI (i : Int))), (3, .int (zI (sumZ (fun j => bz (co 3 j = 1 ∧ co 4 j = 1)) i))), (0, .ref b), (1, .int (zI 1)), (2, .int (zI 1))] [.int (zI (co 3 (i : Int))), .int (zI (sumZ (fun j => bz (co 3 j = 1 ∧ co 4 j = 1)) i))]
    have hb_4 := hO.b3 (i : Int)
    refine v_iload_n X dX10_inPhase_24 25 rfl 3 rfl ?_
    refine v_icmp_ne X (by omega) (by omega) dX10_inPhase_25 28 47 rfl (by decide) (fun c_5 => ?_) (fun c_5 => ?_)
    · skip
      refine v_iconst X dX10_inPhase_47 48 rfl ?_
      refine v_iadd X dX10_inPhase_48 49 rfl ?_
      refine v_istore_n X dX10_inPhase_49 50 rfl rfl (by decide) (L' := [(3, .int (zI (sumZ (fun j => bz (co 3 j = 1 ∧ co 4 j = 1)) i + 0))), (4, .int (zI (i : Int))), (0, .ref b), (1, .int (zI 1)), (2, .int (zI 1))]) rfl ?_
      refine v_iinc X dX10_inPhase_50 53 rfl 1 rfl (by decide) (L' := [(4, .int (zI ((i : Int) + 1))), (3, .int (zI (sumZ (fun j => bz (co 3 j = 1 ∧ co 4 j = 1)) i + 0))), (0, .ref b), (1, .int (zI 1)), (2, .int (zI 1))]) rfl ?_
      refine v_goto X dX10_inPhase_53 5 (by decide) ?_
      exact V_L (L' := [(4, .int (zI ((i + 1 : Nat) : Int))), (3, .int (zI (sumZ (fun j => bz (co 3 j = 1 ∧ co 4 j = 1)) (i + 1)))), (0, .ref b), (1, .int (zI 1)), (2, .int (zI 1))]) (LC (vz (by omega)) (LC (vz (by first | rw [sumZ_s, bz_t (φ := co 3 (i : Int) = 1 ∧ co 4 (i : Int) = 1) (by first | assumption | omega)] | (rw [sumZ_s, bz_f (φ := co 3 (i : Int) = 1 ∧ co 4 (i : Int) = 1) (by first | assumption | omega)] <;> omega))) (LC rfl (LC rfl (LC rfl rfl))))) (ih_i (by omega))
    · skip
      refine v_iload_n X dX10_inPhase_28 29 rfl 4 rfl ?_
      refine v_if_lt X (by omega) dX10_inPhase_29 32 43 rfl (by decide) (fun c_6 => ?_) (fun c_6 => ?_)
      · skip
        exfalso; omega
      · skip
        refine v_aload_n X dX10_inPhase_32 33 rfl 2 rfl ?_
        refine v_iload X dX10_inPhase_33 35 rfl 0 rfl ?_
        refine v_iconst X dX10_inPhase_35 36 rfl ?_
        refine v_rdV X hC h_mo (c_X10_c_3 l E b mo co (i : Int) hO hR (by omega) (by omega)) kvX10_c kiX10_c kl_X10_47 rfl rfl (As := [.int (zI (i : Int)), .int (zI 3)]) rfl rfl rfl dX10_inPhase_36 39 rfl ?_
        show V p l e (rmL 1 0 0) s m args below meth cd Q 5 s.heap [] 0 0 39 [(4, .int (zI (i : Int))), (3, .int (zI (sumZ (fun j => bz (co 3 j = 1 ∧ co 4 j = 1)) i))), (0, .ref b), (1, .int (zI 1)), (2, .int (zI 1))] [.int (zI (co 4 (i : Int))), .int (zI (sumZ (fun j => bz (co 3 j = 1 ∧ co 4 j = 1)) i))]
        have hb_7 := hO.b4 (i : Int)
        refine v_iload_n X dX10_inPhase_39 40 rfl 4 rfl ?_
        refine v_icmp_ne X (by omega) (by omega) dX10_inPhase_40 43 47 rfl (by decide) (fun c_8 => ?_) (fun c_8 => ?_)
        · skip
          refine v_iconst X dX10_inPhase_47 48 rfl ?_
          refine v_iadd X dX10_inPhase_48 49 rfl ?_
          refine v_istore_n X dX10_inPhase_49 50 rfl rfl (by decide) (L' := [(3, .int (zI (sumZ (fun j => bz (co 3 j = 1 ∧ co 4 j = 1)) i + 0))), (4, .int (zI (i : Int))), (0, .ref b), (1, .int (zI 1)), (2, .int (zI 1))]) rfl ?_
          refine v_iinc X dX10_inPhase_50 53 rfl 1 rfl (by decide) (L' := [(4, .int (zI ((i : Int) + 1))), (3, .int (zI (sumZ (fun j => bz (co 3 j = 1 ∧ co 4 j = 1)) i + 0))), (0, .ref b), (1, .int (zI 1)), (2, .int (zI 1))]) rfl ?_
          refine v_goto X dX10_inPhase_53 5 (by decide) ?_
          exact V_L (L' := [(4, .int (zI ((i + 1 : Nat) : Int))), (3, .int (zI (sumZ (fun j => bz (co 3 j = 1 ∧ co 4 j = 1)) (i + 1)))), (0, .ref b), (1, .int (zI 1)), (2, .int (zI 1))]) (LC (vz (by omega)) (LC (vz (by first | rw [sumZ_s, bz_t (φ := co 3 (i : Int) = 1 ∧ co 4 (i : Int) = 1) (by first | assumption | omega)] | (rw [sumZ_s, bz_f (φ := co 3 (i : Int) = 1 ∧ co 4 (i : Int) = 1) (by first | assumption | omega)] <;> omega))) (LC rfl (LC rfl (LC rfl rfl))))) (ih_i (by omega))
        · skip
          refine v_iconst X dX10_inPhase_43 44 rfl ?_
          refine v_goto X dX10_inPhase_44 48 (by decide) ?_
          refine v_iadd X dX10_inPhase_48 49 rfl ?_
          refine v_istore_n X dX10_inPhase_49 50 rfl rfl (by decide) (L' := [(3, .int (zI (sumZ (fun j => bz (co 3 j = 1 ∧ co 4 j = 1)) i + 1))), (4, .int (zI (i : Int))), (0, .ref b), (1, .int (zI 1)), (2, .int (zI 1))]) rfl ?_
          refine v_iinc X dX10_inPhase_50 53 rfl 1 rfl (by decide) (L' := [(4, .int (zI ((i : Int) + 1))), (3, .int (zI (sumZ (fun j => bz (co 3 j = 1 ∧ co 4 j = 1)) i + 1))), (0, .ref b), (1, .int (zI 1)), (2, .int (zI 1))]) rfl ?_
          refine v_goto X dX10_inPhase_53 5 (by decide) ?_
          exact V_L (L' := [(4, .int (zI ((i + 1 : Nat) : Int))), (3, .int (zI (sumZ (fun j => bz (co 3 j = 1 ∧ co 4 j = 1)) (i + 1)))), (0, .ref b), (1, .int (zI 1)), (2, .int (zI 1))]) (LC (vz (by omega)) (LC (vz (by first | rw [sumZ_s, bz_t (φ := co 3 (i : Int) = 1 ∧ co 4 (i : Int) = 1) (by first | assumption | omega)] | (rw [sumZ_s, bz_f (φ := co 3 (i : Int) = 1 ∧ co 4 (i : Int) = 1) (by first | assumption | omega)] <;> omega))) (LC rfl (LC rfl (LC rfl rfl))))) (ih_i (by omega))
set_option maxHeartbeats 4000000 in
set_option maxRecDepth 20000 in
theorem c_X10_inPhase_2g (l : Launch) (E : Nat → Nat → Nat) (b : Nat) (mo : Nat → Int → Int) (co : Nat → Int → Int) (hO : OkC co) (hR : RelC co (mo 1)) : Rd l yX10_inPhase cX10_inPhase 5 (some .int) 1 E [.ref b, .int (zI 2), .int (zI 1)] (modelW E b mo) (some (.int (zI (sumZ (fun j => bz (co 3 j = 2 ∧ co 4 j = 1)) (co 0 0).toNat)))) := by
  refine Rd.start (own := RX10) rfl (by decide +kernel) (Nat.le_of_ble_eq_true rfl) ?_
  intro p e s m below meth cd args Q hQ X hr hlk hC hP
  have h_mo := hP
  have hb0 := hO.b0
  have hbw := hO.bw
  refine v_iconst X dX10_inPhase_0 1 rfl ?_
  refine v_istore_n X dX10_inPhase_1 2 rfl rfl (by decide) (L' := [(3, .int (zI 0)), (0, .ref b), (1, .int (zI 2)), (2, .int (zI 1))]) rfl ?_
  refine v_iconst X dX10_inPhase_2 3 rfl ?_
  refine v_istore X dX10_inPhase_3 5 rfl (by decide) (L' := [(4, .int (zI 0)), (3, .int (zI 0)), (0, .ref b), (1, .int (zI 2)), (2, .int (zI 1))]) rfl ?_
  refine V_L (L' := [(4, .int (zI 0)), (3, .int (zI (sumZ (fun j => bz (co 3 j = 2 ∧ co 4 j = 1)) 0))), (0, .ref b), (1, .int (zI 2)), (2, .int (zI 1))]) (LC rfl (LC (vz (by rfl)) (LC rfl (LC rfl (LC rfl rfl))))) ?_
  refine up_loop ((co 0 0).toNat) (P := fun (i : Nat) => V p l e (rmL 1 0 0) s m args below meth cd Q 5 s.heap [] 0 0 5 [(4, .int (zI (i : Int))), (3, .int (zI (sumZ (fun j => bz (co 3 j = 2 ∧ co 4 j = 1)) i))), (0, .ref b), (1, .int (zI 2)), (2, .int (zI 1))] []) (fun i hi_i ih_i => ?_)
  refine v_iload X dX10_inPhase_5 7 rfl 0 rfl ?_
  refine v_aload_n X dX10_inPhase_7 8 rfl 2 rfl ?_
  refine v_getf X hC h_mo inX10 0 rfl rfl 1 (by decide) kf_X10_9 (fun _ h => h) rfl dX10_inPhase_8 11 rfl ?_
  refine v_iconst X dX10_inPhase_11 12 rfl ?_
  refine v_iald X hC h_mo 1 rfl (by omega) (by omega) (by omega) dX10_inPhase_12 13 rfl ?_
  have hb_2 := hR.s0
  refine v_icmp_ge X (by omega) (by omega) dX10_inPhase_13 16 56 rfl (by decide) (fun c_1 => ?_) (fun c_1 => ?_)
  · skip
    refine v_iload_n X dX10_inPhase_56 57 rfl 1 rfl ?_
    subst hQ; exact v_iret0 X hr hlk dX10_inPhase_57 (by rw [show i = (co 0 0).toNat by omega])
  · skip
    refine v_iload_n X dX10_inPhase_16 17 rfl 1 rfl ?_
    refine v_aload_n X dX10_inPhase_17 18 rfl 2 rfl ?_
    refine v_iload X dX10_inPhase_18 20 rfl 0 rfl ?_
    refine v_iconst X dX10_inPhase_20 21 rfl ?_
    have hb_3 := hO.b0
    refine v_rdV X hC h_mo (c_X10_c_2 l E b mo co (i : Int) hO hR (by omega) (by omega)) kvX10_c kiX10_c kl_X10_47 rfl rfl (As := [.int (zI (i : Int)), .int (zI 2)]) rfl rfl rfl dX10_inPhase_21 24 rfl ?_
    show V p l e (rmL 1 0 0) s m args below meth cd Q 5 s.heap [] 0 0 24 [(4, .int (zI (i : Int))), (3, .int (zI (sumZ (fun j => bz (co 3 j = 2 ∧ co 4 j = 1)) i))), (0, .ref b), (1, .int (zI 2)), (2, .int (zI 1))] [.int (zI (co 3 (i : Int))), .int (zI (sumZ (fun j => bz (co 3 j = 2 ∧ co 4 j = 1)) i))]
    have hb_4 := hO.b3 (i : Int)
    refine v_iload_n X dX10_inPhase_24 25 rfl 3 rfl ?_
    refine v_icmp_ne X (by omega) (by omega) dX10_inPhase_25 28 47 rfl (by decide) (fun c_5 => ?_) (fun c_5 => ?_)
    · skip
      refine v_iconst X dX10_inPhase_47 48 rfl ?_
      refine v_iadd X dX10_inPhase_48 49 rfl ?_
      refine v_istore_n X dX10_inPhase_49 50 rfl rfl (by decide) (L' := [(3, .int (zI (sumZ (fun j => bz (co 3 j = 2 ∧ co 4 j = 1)) i + 0))), (4, .int (zI (i : Int))), (0, .ref b), (1, .int (zI 2)), (2, .int (zI 1))]) rfl ?_
      refine v_iinc X dX10_inPhase_50 53 rfl 1 rfl (by decide) (L' := [(4, .int (zI ((i : Int) + 1))), (3, .int (zI (sumZ (fun j => bz (co 3 j = 2 ∧ co 4 j = 1)) i + 0))), (0, .ref b), (1, .int (zI 2)), (2, .int (zI 1))]) rfl ?_
      refine v_goto X dX10_inPhase_53 5 (by decide) ?_
      exact V_L (L' := [(4, .int (zI ((i + 1 : Nat) : Int))), (3, .int (zI (sumZ (fun j => bz (co 3 j = 2 ∧ co 4 j = 1)) (i + 1)))), (0, .ref b), (1, .int (zI 2)), (2, .int (zI 1))]) (LC (vz (by omega)) (LC (vz (by first | rw [sumZ_s, bz_t (φ := co 3 (i : Int) = 2 ∧ co 4 (i : Int) = 1) (by first | assumption | omega)] | (rw [sumZ_s, bz_f (φ := co 3 (i : Int) = 2 ∧ co 4 (i : Int) = 1) (by first | assumption | omega)] <;> omega))) (LC rfl (LC rfl (LC rfl rfl))))) (ih_i (by omega))
    · skip
      refine v_iload_n X dX10_inPhase_28 29 rfl 4 rfl ?_
      refine v_if_lt X (by omega) dX10_inPhase_29 32 43 rfl (by decide) (fun c_6 => ?_) (fun c_6 => ?_)
      · skip
        exfalso; omega
      · skip
        refine v_aload_n X dX10_inPhase_32 33 rfl 2 rfl ?_
        refine v_iload X dX10_inPhase_33 35 rfl 0 rfl ?_
        refine v_iconst X dX10_inPhase_35 36 rfl ?_
        refine v_rdV X hC h_mo (c_X10_c_3 l E b mo co (i : Int) hO hR (by omega) (by omega)) kvX10_c kiX10_c kl_X10_47 rfl rfl (As := [.int (zI (i : Int)), .int (zI 3)]) rfl rfl rfl dX10_inPhase_36 39 rfl ?_
        show V p l e (rmL 1 0 0) s m args below meth cd Q 5 s.heap [] 0 0 39 [(4, .int (zI (i : Int))), (3, .int (zI (sumZ (fun j => bz (co 3 j = 2 ∧ co 4 j = 1)) i))), (0, .ref b), (1, .int (zI 2)), (2, .int (zI 1))] [.int (zI (co 4 (i : Int))), .int (zI (sumZ (fun j => bz (co 3 j = 2 ∧ co 4 j = 1)) i))]
        have hb_7 := hO.b4 (i : Int)
        refine v_iload_n X dX10_inPhase_39 40 rfl 4 rfl ?_
        refine v_icmp_ne X (by omega) (by omega) dX10_inPhase_40 43 47 rfl (by decide) (fun c_8 => ?_) (fun c_8 => ?_)
        · skip
          refine v_iconst X dX10_inPhase_47 48 rfl ?_
          refine v_iadd X dX10_inPhase_48 49 rfl ?_
          refine v_istore_n X dX10_inPhase_49 50 rfl rfl (by decide) (L' := [(3, .int (zI (sumZ (fun j => bz (co 3 j = 2 ∧ co 4 j = 1)) i + 0))), (4, .int (zI (i : Int))), (0, .ref b), (1, .int (zI 2)), (2, .int (zI 1))]) rfl ?_
          refine v_iinc X dX10_inPhase_50 53 rfl 1 rfl (by decide) (L' := [(4, .int (zI ((i : Int) + 1))), (3, .int (zI (sumZ (fun j => bz (co 3 j = 2 ∧ co 4 j = 1)) i + 0))), (0, .ref b), (1, .int (zI 2)), (2, .int (zI 1))]) rfl ?_
          refine v_goto X dX10_inPhase_53 5 (by decide) ?_
          exact V_L (L' := [(4, .int (zI ((i + 1 : Nat) : Int))), (3, .int (zI (sumZ (fun j => bz (co 3 j = 2 ∧ co 4 j = 1)) (i + 1)))), (0, .ref b), (1, .int (zI 2)), (2, .int (zI 1))]) (LC (vz (by omega)) (LC (vz (by first | rw [sumZ_s, bz_t (φ := co 3 (i : Int) = 2 ∧ co 4 (i : Int) = 1) (by first | assumption | omega)] | (rw [sumZ_s, bz_f (φ := co 3 (i : Int) = 2 ∧ co 4 (i : Int) = 1) (by first | assumption | omega)] <;> omega))) (LC rfl (LC rfl (LC rfl rfl))))) (ih_i (by omega))
        · skip
          refine v_iconst X dX10_inPhase_43 44 rfl ?_
          refine v_goto X dX10_inPhase_44 48 (by decide) ?_
          refine v_iadd X dX10_inPhase_48 49 rfl ?_
          refine v_istore_n X dX10_inPhase_49 50 rfl rfl (by decide) (L' := [(3, .int (zI (sumZ (fun j => bz (co 3 j = 2 ∧ co 4 j = 1)) i + 1))), (4, .int (zI (i : Int))), (0, .ref b), (1, .int (zI 2)), (2, .int (zI 1))]) rfl ?_
          refine v_iinc X dX10_inPhase_50 53 rfl 1 rfl (by decide) (L' := [(4, .int (zI ((i : Int) + 1))), (3, .int (zI (sumZ (fun j => bz (co 3 j = 2 ∧ co 4 j = 1)) i + 1))), (0, .ref b), (1, .int (zI 2)), (2, .int (zI 1))]) rfl ?_
          refine v_goto X dX10_inPhase_53 5 (by decide) ?_
          exact V_L (L' := [(4, .int (zI ((i + 1 : Nat) : Int))), (3, .int (zI (sumZ (fun j => bz (co 3 j = 2 ∧ co 4 j = 1)) (i + 1)))), (0, .ref b), (1, .int (zI 2)), (2, .int (zI 1))]) (LC (vz (by omega)) (LC (vz (by first | rw [sumZ_s, bz_t (φ := co 3 (i : Int) = 2 ∧ co 4 (i : Int) = 1) (by first | assumption | omega)] | (rw [sumZ_s, bz_f (φ := co 3 (i : Int) = 2 ∧ co 4 (i : Int) = 1) (by first | assumption | omega)] <;> omega))) (LC rfl (LC rfl (LC rfl rfl))))) (ih_i (by omega))
set_option maxHeartbeats 4000000 in
set_option maxRecDepth 20000 in
theorem c_X10_casesBy (l : Launch) (E : Nat → Nat → Nat) (b : Nat) (mo : Nat → Int → Int) (co : Nat → Int → Int) (w : Int) (hO : OkC co) (hR : RelC co (mo 1)) (hI : TsI co) (w0 : 0 ≤ w) (w1 : w < 8) : Rd l yX10_casesBy cX10_casesBy 4 (some .int) 2 E [.ref b, .int (zI w)] (modelW E b mo) (some (.int (zI (chC co w)))) := by
  refine Rd.start (own := RX10) rfl (by decide +kernel) (Nat.le_of_ble_eq_true rfl) ?_
  intro p e s m below meth cd args Q hQ X hr hlk hC hP
  have h_mo := hP
  have hb0 := hO.b0
  have hbw := hO.bw
  refine v_iconst X dX10_casesBy_0 1 rfl ?_
  refine v_istore_n X dX10_casesBy_1 2 rfl rfl (by decide) (L' := [(2, .int (zI 0)), (0, .ref b), (1, .int (zI w))]) rfl ?_
  refine v_iconst X dX10_casesBy_2 3 rfl ?_
  refine v_istore_n X dX10_casesBy_3 4 rfl rfl (by decide) (L' := [(3, .int (zI 0)), (2, .int (zI 0)), (0, .ref b), (1, .int (zI w))]) rfl ?_
  refine V_L (L' := [(3, .int (zI 0)), (2, .int (zI (sumZ (fun j => bz (0 < co 9 (j * 8 + w))) 0))), (0, .ref b), (1, .int (zI w))]) (LC rfl (LC (vz (by rfl)) (LC rfl (LC rfl rfl)))) ?_
  refine up_loop ((co 0 0).toNat) (P := fun (i : Nat) => V p l e (rmL 2 0 0) s m args below meth cd Q 4 s.heap [] 0 0 4 [(3, .int (zI (i : Int))), (2, .int (zI (sumZ (fun j => bz (0 < co 9 (j * 8 + w))) i))), (0, .ref b), (1, .int (zI w))] []) (fun i hi_i ih_i => ?_)
  refine v_iload_n X dX10_casesBy_4 5 rfl 0 rfl ?_
  refine v_aload_n X dX10_casesBy_5 6 rfl 2 rfl ?_
  refine v_getf X hC h_mo inX10 0 rfl rfl 1 (by decide) kf_X10_9 (fun _ h => h) rfl dX10_casesBy_6 9 rfl ?_
  refine v_iconst X dX10_casesBy_9 10 rfl ?_
  refine v_iald X hC h_mo 1 rfl (by omega) (by omega) (by omega) dX10_casesBy_10 11 rfl ?_
  have hb_2 := hR.s0
  refine v_icmp_ge X (by omega) (by omega) dX10_casesBy_11 14 37 rfl (by decide) (fun c_1 => ?_) (fun c_1 => ?_)
  · skip
    refine v_iload_n X dX10_casesBy_37 38 rfl 1 rfl ?_
    subst hQ; exact v_iret0 X hr hlk dX10_casesBy_38 (by rw [show i = (co 0 0).toNat by omega]; rfl)
  · skip
    refine v_iload_n X dX10_casesBy_14 15 rfl 1 rfl ?_
    refine v_aload_n X dX10_casesBy_15 16 rfl 2 rfl ?_
    refine v_iload_n X dX10_casesBy_16 17 rfl 0 rfl ?_
    refine v_iload_n X dX10_casesBy_17 18 rfl 3 rfl ?_
    have hb_3 := hO.b0
    refine v_rdV X hC h_mo (c_X10_spokenBy l E b mo co (i : Int) w hO hR (by omega) (by omega) (by omega)) kvX10_spokenBy kiX10_spokenBy kl_X10_98 rfl rfl (As := [.int (zI (i : Int)), .int (zI w)]) rfl rfl rfl dX10_casesBy_18 21 rfl ?_
    show V p l e (rmL 2 0 0) s m args below meth cd Q 4 s.heap [] 0 0 21 [(3, .int (zI (i : Int))), (2, .int (zI (sumZ (fun j => bz (0 < co 9 (j * 8 + w))) i))), (0, .ref b), (1, .int (zI w))] [.int (zI (swC co (i : Int) w)), .int (zI (sumZ (fun j => bz (0 < co 9 (j * 8 + w))) i))]
    have hf_4 := swC_b hO (i : Int) w
    refine v_if_lt X (by omega) dX10_casesBy_21 24 28 rfl (by decide) (fun c_5 => ?_) (fun c_5 => ?_)
    · skip
      refine v_iconst X dX10_casesBy_28 29 rfl ?_
      refine v_iadd X dX10_casesBy_29 30 rfl ?_
      refine v_istore_n X dX10_casesBy_30 31 rfl rfl (by decide) (L' := [(2, .int (zI (sumZ (fun j => bz (0 < co 9 (j * 8 + w))) i + 0))), (3, .int (zI (i : Int))), (0, .ref b), (1, .int (zI w))]) rfl ?_
      refine v_iinc X dX10_casesBy_31 34 rfl 1 rfl (by decide) (L' := [(3, .int (zI ((i : Int) + 1))), (2, .int (zI (sumZ (fun j => bz (0 < co 9 (j * 8 + w))) i + 0))), (0, .ref b), (1, .int (zI w))]) rfl ?_
      refine v_goto X dX10_casesBy_34 4 (by decide) ?_
      exact V_L (L' := [(3, .int (zI ((i + 1 : Nat) : Int))), (2, .int (zI (sumZ (fun j => bz (0 < co 9 (j * 8 + w))) (i + 1)))), (0, .ref b), (1, .int (zI w))]) (LC (vz (by omega)) (LC (vz (by first | rw [sumZ_s, bz_t (φ := 0 < co 9 ((i : Int) * 8 + w)) (by exact (swC_iff hO hI (by omega) (by omega) w0 w1).mp (by omega))] | (rw [sumZ_s, bz_f (φ := 0 < co 9 ((i : Int) * 8 + w)) (by intro q; have := (swC_iff hO hI (by omega) (by omega) w0 w1).mpr q; omega)] <;> omega))) (LC rfl (LC rfl rfl)))) (ih_i (by omega))
    · skip
      refine v_iconst X dX10_casesBy_24 25 rfl ?_
      refine v_goto X dX10_casesBy_25 29 (by decide) ?_
      refine v_iadd X dX10_casesBy_29 30 rfl ?_
      refine v_istore_n X dX10_casesBy_30 31 rfl rfl (by decide) (L' := [(2, .int (zI (sumZ (fun j => bz (0 < co 9 (j * 8 + w))) i + 1))), (3, .int (zI (i : Int))), (0, .ref b), (1, .int (zI w))]) rfl ?_
      refine v_iinc X dX10_casesBy_31 34 rfl 1 rfl (by decide) (L' := [(3, .int (zI ((i : Int) + 1))), (2, .int (zI (sumZ (fun j => bz (0 < co 9 (j * 8 + w))) i + 1))), (0, .ref b), (1, .int (zI w))]) rfl ?_
      refine v_goto X dX10_casesBy_34 4 (by decide) ?_
      exact V_L (L' := [(3, .int (zI ((i + 1 : Nat) : Int))), (2, .int (zI (sumZ (fun j => bz (0 < co 9 (j * 8 + w))) (i + 1)))), (0, .ref b), (1, .int (zI w))]) (LC (vz (by omega)) (LC (vz (by first | rw [sumZ_s, bz_t (φ := 0 < co 9 ((i : Int) * 8 + w)) (by exact (swC_iff hO hI (by omega) (by omega) w0 w1).mp (by omega))] | (rw [sumZ_s, bz_f (φ := 0 < co 9 ((i : Int) * 8 + w)) (by intro q; have := (swC_iff hO hI (by omega) (by omega) w0 w1).mpr q; omega)] <;> omega))) (LC rfl (LC rfl rfl)))) (ih_i (by omega))
set_option maxHeartbeats 4000000 in
set_option maxRecDepth 20000 in
theorem c_X10_sentenceOf (l : Launch) (E : Nat → Nat → Nat) (b : Nat) (mo : Nat → Int → Int) (co : Nat → Int → Int) (d : Int) (hO : OkC co) (hR : RelC co (mo 1)) (hS : SnI co) (d0 : 0 ≤ d) (d1 : d < 6) : Rd l yX10_sentenceOf cX10_sentenceOf 4 (some .int) 2 E [.ref b, .int (zI d)] (modelW E b mo) (some (.int (zI (co 12 d)))) := by
  refine Rd.start (own := RX10) rfl (by decide +kernel) (Nat.le_of_ble_eq_true rfl) ?_
  intro p e s m below meth cd args Q hQ X hr hlk hC hP
  have h_mo := hP
  have hb0 := hO.b0
  have hbw := hO.bw
  refine v_iconst X dX10_sentenceOf_0 1 rfl ?_
  refine v_istore_n X dX10_sentenceOf_1 2 rfl rfl (by decide) (L' := [(2, .int (zI 0)), (0, .ref b), (1, .int (zI d))]) rfl ?_
  refine v_iconst X dX10_sentenceOf_2 3 rfl ?_
  refine v_istore_n X dX10_sentenceOf_3 4 rfl rfl (by decide) (L' := [(3, .int (zI 0)), (2, .int (zI 0)), (0, .ref b), (1, .int (zI d))]) rfl ?_
  refine V_L (L' := [(3, .int (zI 0)), (2, .int (zI (sumZ (fun j => if co 1 j = d ∧ ¬ co 4 j = 0 then co 2 j + 1 else 0) 0))), (0, .ref b), (1, .int (zI d))]) (LC rfl (LC (vz (by rfl)) (LC rfl (LC rfl rfl)))) ?_
  refine up_loop ((co 0 0).toNat) (P := fun (i : Nat) => V p l e (rmL 2 0 0) s m args below meth cd Q 4 s.heap [] 0 0 4 [(3, .int (zI (i : Int))), (2, .int (zI (sumZ (fun j => if co 1 j = d ∧ ¬ co 4 j = 0 then co 2 j + 1 else 0) i))), (0, .ref b), (1, .int (zI d))] []) (fun i hi_i ih_i => ?_)
  refine v_iload_n X dX10_sentenceOf_4 5 rfl 0 rfl ?_
  refine v_aload_n X dX10_sentenceOf_5 6 rfl 2 rfl ?_
  refine v_getf X hC h_mo inX10 0 rfl rfl 1 (by decide) kf_X10_9 (fun _ h => h) rfl dX10_sentenceOf_6 9 rfl ?_
  refine v_iconst X dX10_sentenceOf_9 10 rfl ?_
  refine v_iald X hC h_mo 1 rfl (by omega) (by omega) (by omega) dX10_sentenceOf_10 11 rfl ?_
  have hb_2 := hR.s0
  refine v_icmp_ge X (by omega) (by omega) dX10_sentenceOf_11 14 52 rfl (by decide) (fun c_1 => ?_) (fun c_1 => ?_)
  · skip
    refine v_iload_n X dX10_sentenceOf_52 53 rfl 1 rfl ?_
    subst hQ; exact v_iret0 X hr hlk dX10_sentenceOf_53 (by rw [show i = (co 0 0).toNat by omega]; exact hS d d0 d1)
  · skip
    have hb4 := hO.b4 (i : Int)
    refine v_iload_n X dX10_sentenceOf_14 15 rfl 1 rfl ?_
    refine v_aload_n X dX10_sentenceOf_15 16 rfl 2 rfl ?_
    refine v_iload_n X dX10_sentenceOf_16 17 rfl 0 rfl ?_
    refine v_iconst X dX10_sentenceOf_17 18 rfl ?_
    have hb_3 := hO.b0
    refine v_rdV X hC h_mo (c_X10_c_0 l E b mo co (i : Int) hO hR (by omega) (by omega)) kvX10_c kiX10_c kl_X10_47 rfl rfl (As := [.int (zI (i : Int)), .int (zI 0)]) rfl rfl rfl dX10_sentenceOf_18 21 rfl ?_
    show V p l e (rmL 2 0 0) s m args below meth cd Q 4 s.heap [] 0 0 21 [(3, .int (zI (i : Int))), (2, .int (zI (sumZ (fun j => if co 1 j = d ∧ ¬ co 4 j = 0 then co 2 j + 1 else 0) i))), (0, .ref b), (1, .int (zI d))] [.int (zI (co 1 (i : Int))), .int (zI (sumZ (fun j => if co 1 j = d ∧ ¬ co 4 j = 0 then co 2 j + 1 else 0) i))]
    have hb_4 := hO.b1 (i : Int)
    refine v_iload_n X dX10_sentenceOf_21 22 rfl 3 rfl ?_
    refine v_icmp_ne X (by omega) (by omega) dX10_sentenceOf_22 25 43 rfl (by decide) (fun c_5 => ?_) (fun c_5 => ?_)
    · skip
      refine v_iconst X dX10_sentenceOf_43 44 rfl ?_
      refine v_iadd X dX10_sentenceOf_44 45 rfl ?_
      refine v_istore_n X dX10_sentenceOf_45 46 rfl rfl (by decide) (L' := [(2, .int (zI (sumZ (fun j => if co 1 j = d ∧ ¬ co 4 j = 0 then co 2 j + 1 else 0) i + 0))), (3, .int (zI (i : Int))), (0, .ref b), (1, .int (zI d))]) rfl ?_
      refine v_iinc X dX10_sentenceOf_46 49 rfl 1 rfl (by decide) (L' := [(3, .int (zI ((i : Int) + 1))), (2, .int (zI (sumZ (fun j => if co 1 j = d ∧ ¬ co 4 j = 0 then co 2 j + 1 else 0) i + 0))), (0, .ref b), (1, .int (zI d))]) rfl ?_
      refine v_goto X dX10_sentenceOf_49 4 (by decide) ?_
      exact V_L (L' := [(3, .int (zI ((i + 1 : Nat) : Int))), (2, .int (zI (sumZ (fun j => if co 1 j = d ∧ ¬ co 4 j = 0 then co 2 j + 1 else 0) (i + 1)))), (0, .ref b), (1, .int (zI d))]) (LC (vz (by omega)) (LC (vz (by first | (rw [sumZ_s, if_pos (c := co 1 (i : Int) = d ∧ ¬ co 4 (i : Int) = 0) (by omega)] <;> omega) | (rw [sumZ_s, if_neg (c := co 1 (i : Int) = d ∧ ¬ co 4 (i : Int) = 0) (by omega)] <;> omega))) (LC rfl (LC rfl rfl)))) (ih_i (by omega))
    · skip
      refine v_aload_n X dX10_sentenceOf_25 26 rfl 2 rfl ?_
      refine v_iload_n X dX10_sentenceOf_26 27 rfl 0 rfl ?_
      refine v_iconst X dX10_sentenceOf_27 28 rfl ?_
      refine v_rdV X hC h_mo (c_X10_c_3 l E b mo co (i : Int) hO hR (by omega) (by omega)) kvX10_c kiX10_c kl_X10_47 rfl rfl (As := [.int (zI (i : Int)), .int (zI 3)]) rfl rfl rfl dX10_sentenceOf_28 31 rfl ?_
      show V p l e (rmL 2 0 0) s m args below meth cd Q 4 s.heap [] 0 0 31 [(3, .int (zI (i : Int))), (2, .int (zI (sumZ (fun j => if co 1 j = d ∧ ¬ co 4 j = 0 then co 2 j + 1 else 0) i))), (0, .ref b), (1, .int (zI d))] [.int (zI (co 4 (i : Int))), .int (zI (sumZ (fun j => if co 1 j = d ∧ ¬ co 4 j = 0 then co 2 j + 1 else 0) i))]
      have hb_6 := hO.b4 (i : Int)
      refine v_iconst X dX10_sentenceOf_31 32 rfl ?_
      refine v_icmp_ne X (by omega) (by omega) dX10_sentenceOf_32 35 43 rfl (by decide) (fun c_7 => ?_) (fun c_7 => ?_)
      · skip
        refine v_iconst X dX10_sentenceOf_43 44 rfl ?_
        refine v_iadd X dX10_sentenceOf_44 45 rfl ?_
        refine v_istore_n X dX10_sentenceOf_45 46 rfl rfl (by decide) (L' := [(2, .int (zI (sumZ (fun j => if co 1 j = d ∧ ¬ co 4 j = 0 then co 2 j + 1 else 0) i + 0))), (3, .int (zI (i : Int))), (0, .ref b), (1, .int (zI d))]) rfl ?_
        refine v_iinc X dX10_sentenceOf_46 49 rfl 1 rfl (by decide) (L' := [(3, .int (zI ((i : Int) + 1))), (2, .int (zI (sumZ (fun j => if co 1 j = d ∧ ¬ co 4 j = 0 then co 2 j + 1 else 0) i + 0))), (0, .ref b), (1, .int (zI d))]) rfl ?_
        refine v_goto X dX10_sentenceOf_49 4 (by decide) ?_
        exact V_L (L' := [(3, .int (zI ((i + 1 : Nat) : Int))), (2, .int (zI (sumZ (fun j => if co 1 j = d ∧ ¬ co 4 j = 0 then co 2 j + 1 else 0) (i + 1)))), (0, .ref b), (1, .int (zI d))]) (LC (vz (by omega)) (LC (vz (by first | (rw [sumZ_s, if_pos (c := co 1 (i : Int) = d ∧ ¬ co 4 (i : Int) = 0) (by omega)] <;> omega) | (rw [sumZ_s, if_neg (c := co 1 (i : Int) = d ∧ ¬ co 4 (i : Int) = 0) (by omega)] <;> omega))) (LC rfl (LC rfl rfl)))) (ih_i (by omega))
      · skip
        refine v_aload_n X dX10_sentenceOf_35 36 rfl 2 rfl ?_
        refine v_iload_n X dX10_sentenceOf_36 37 rfl 0 rfl ?_
        refine v_rdV X hC h_mo (c_X10_severity l E b mo co (i : Int) hO hR (by omega) (by omega)) kvX10_severity kiX10_severity kl_X10_61 rfl rfl (As := [.int (zI (i : Int))]) rfl rfl rfl dX10_sentenceOf_37 40 rfl ?_
        show V p l e (rmL 2 0 0) s m args below meth cd Q 4 s.heap [] 0 0 40 [(3, .int (zI (i : Int))), (2, .int (zI (sumZ (fun j => if co 1 j = d ∧ ¬ co 4 j = 0 then co 2 j + 1 else 0) i))), (0, .ref b), (1, .int (zI d))] [.int (zI (co 2 (i : Int) + 1)), .int (zI (sumZ (fun j => if co 1 j = d ∧ ¬ co 4 j = 0 then co 2 j + 1 else 0) i))]
        have hb_8 := hO.b2 (i : Int)
        refine v_goto X dX10_sentenceOf_40 44 (by decide) ?_
        refine v_iadd X dX10_sentenceOf_44 45 rfl ?_
        refine v_istore_n X dX10_sentenceOf_45 46 rfl rfl (by decide) (L' := [(2, .int (zI (sumZ (fun j => if co 1 j = d ∧ ¬ co 4 j = 0 then co 2 j + 1 else 0) i + (co 2 (i : Int) + 1)))), (3, .int (zI (i : Int))), (0, .ref b), (1, .int (zI d))]) rfl ?_
        refine v_iinc X dX10_sentenceOf_46 49 rfl 1 rfl (by decide) (L' := [(3, .int (zI ((i : Int) + 1))), (2, .int (zI (sumZ (fun j => if co 1 j = d ∧ ¬ co 4 j = 0 then co 2 j + 1 else 0) i + (co 2 (i : Int) + 1)))), (0, .ref b), (1, .int (zI d))]) rfl ?_
        refine v_goto X dX10_sentenceOf_49 4 (by decide) ?_
        exact V_L (L' := [(3, .int (zI ((i + 1 : Nat) : Int))), (2, .int (zI (sumZ (fun j => if co 1 j = d ∧ ¬ co 4 j = 0 then co 2 j + 1 else 0) (i + 1)))), (0, .ref b), (1, .int (zI d))]) (LC (vz (by omega)) (LC (vz (by first | (rw [sumZ_s, if_pos (c := co 1 (i : Int) = d ∧ ¬ co 4 (i : Int) = 0) (by omega)] <;> omega) | (rw [sumZ_s, if_neg (c := co 1 (i : Int) = d ∧ ¬ co 4 (i : Int) = 0) (by omega)] <;> omega))) (LC rfl (LC rfl rfl)))) (ih_i (by omega))
set_option maxHeartbeats 4000000 in
set_option maxRecDepth 20000 in
theorem c_X10_rankOf (l : Launch) (E : Nat → Nat → Nat) (b : Nat) (mo : Nat → Int → Int) (co : Nat → Int → Int) (k : Int) (hO : OkC co) (hR : RelC co (mo 1)) (k0 : 0 ≤ k) (k1 : k < co 0 0) : Rd l yX10_rankOf cX10_rankOf 6 (some .int) 2 E [.ref b, .int (zI k)] (modelW E b mo) (some (.int (zI (sumZ (fun j => bz (co 3 j = 0 ∧ cbC co j k)) (co 0 0).toNat)))) := by
  refine Rd.start (own := RX10) rfl (by decide +kernel) (Nat.le_of_ble_eq_true rfl) ?_
  intro p e s m below meth cd args Q hQ X hr hlk hC hP
  have h_mo := hP
  have hb0 := hO.b0
  have hbw := hO.bw
  refine v_iconst X dX10_rankOf_0 1 rfl ?_
  refine v_istore_n X dX10_rankOf_1 2 rfl rfl (by decide) (L' := [(2, .int (zI 0)), (0, .ref b), (1, .int (zI k))]) rfl ?_
  refine v_iconst X dX10_rankOf_2 3 rfl ?_
  refine v_istore_n X dX10_rankOf_3 4 rfl rfl (by decide) (L' := [(3, .int (zI 0)), (2, .int (zI 0)), (0, .ref b), (1, .int (zI k))]) rfl ?_
  refine V_L (L' := [(3, .int (zI 0)), (2, .int (zI (sumZ (fun j => bz (co 3 j = 0 ∧ cbC co j k)) 0))), (0, .ref b), (1, .int (zI k))]) (LC rfl (LC (vz (by rfl)) (LC rfl (LC rfl rfl)))) ?_
  refine up_loop ((co 0 0).toNat) (P := fun (i : Nat) => V p l e (rmL 2 0 0) s m args below meth cd Q 6 s.heap [] 0 0 4 [(3, .int (zI (i : Int))), (2, .int (zI (sumZ (fun j => bz (co 3 j = 0 ∧ cbC co j k)) i))), (0, .ref b), (1, .int (zI k))] []) (fun i hi_i ih_i => ?_)
  refine v_iload_n X dX10_rankOf_4 5 rfl 0 rfl ?_
  refine v_aload_n X dX10_rankOf_5 6 rfl 2 rfl ?_
  refine v_getf X hC h_mo inX10 0 rfl rfl 1 (by decide) kf_X10_9 (fun _ h => h) rfl dX10_rankOf_6 9 rfl ?_
  refine v_iconst X dX10_rankOf_9 10 rfl ?_
  refine v_iald X hC h_mo 1 rfl (by omega) (by omega) (by omega) dX10_rankOf_10 11 rfl ?_
  have hb_2 := hR.s0
  refine v_icmp_ge X (by omega) (by omega) dX10_rankOf_11 14 93 rfl (by decide) (fun c_1 => ?_) (fun c_1 => ?_)
  · skip
    refine v_iload_n X dX10_rankOf_93 94 rfl 1 rfl ?_
    subst hQ; exact v_iret0 X hr hlk dX10_rankOf_94 (by rw [show i = (co 0 0).toNat by omega])
  · skip
    refine v_aload_n X dX10_rankOf_14 15 rfl 2 rfl ?_
    refine v_iload_n X dX10_rankOf_15 16 rfl 0 rfl ?_
    refine v_iconst X dX10_rankOf_16 17 rfl ?_
    have hb_3 := hO.b0
    refine v_rdV X hC h_mo (c_X10_c_2 l E b mo co (i : Int) hO hR (by omega) (by omega)) kvX10_c kiX10_c kl_X10_47 rfl rfl (As := [.int (zI (i : Int)), .int (zI 2)]) rfl rfl rfl dX10_rankOf_17 20 rfl ?_
    show V p l e (rmL 2 0 0) s m args below meth cd Q 6 s.heap [] 0 0 20 [(3, .int (zI (i : Int))), (2, .int (zI (sumZ (fun j => bz (co 3 j = 0 ∧ cbC co j k)) i))), (0, .ref b), (1, .int (zI k))] [.int (zI (co 3 (i : Int)))]
    have hb_4 := hO.b3 (i : Int)
    refine v_if_eq X (by omega) dX10_rankOf_20 23 26 rfl (by decide) (fun c_5 => ?_) (fun c_5 => ?_)
    · skip
      refine v_aload_n X dX10_rankOf_26 27 rfl 2 rfl ?_
      refine v_iload_n X dX10_rankOf_27 28 rfl 0 rfl ?_
      refine v_rdV X hC h_mo (c_X10_severity l E b mo co (i : Int) hO hR (by omega) (by omega)) kvX10_severity kiX10_severity kl_X10_61 rfl rfl (As := [.int (zI (i : Int))]) rfl rfl rfl dX10_rankOf_28 31 rfl ?_
      show V p l e (rmL 2 0 0) s m args below meth cd Q 6 s.heap [] 0 0 31 [(3, .int (zI (i : Int))), (2, .int (zI (sumZ (fun j => bz (co 3 j = 0 ∧ cbC co j k)) i))), (0, .ref b), (1, .int (zI k))] [.int (zI (co 2 (i : Int) + 1))]
      have hb_6 := hO.b2 (i : Int)
      refine v_aload_n X dX10_rankOf_31 32 rfl 2 rfl ?_
      refine v_iload_n X dX10_rankOf_32 33 rfl 3 rfl ?_
      refine v_rdV X hC h_mo (c_X10_severity l E b mo co k hO hR k0 k1) kvX10_severity kiX10_severity kl_X10_61 rfl rfl (As := [.int (zI k)]) rfl rfl rfl dX10_rankOf_33 36 rfl ?_
      show V p l e (rmL 2 0 0) s m args below meth cd Q 6 s.heap [] 0 0 36 [(3, .int (zI (i : Int))), (2, .int (zI (sumZ (fun j => bz (co 3 j = 0 ∧ cbC co j k)) i))), (0, .ref b), (1, .int (zI k))] [.int (zI (co 2 k + 1)), .int (zI (co 2 (i : Int) + 1))]
      have hb_7 := hO.b2 k
      refine v_isub X dX10_rankOf_36 37 rfl ?_
      refine v_istore X dX10_rankOf_37 39 rfl (by decide) (L' := [(4, .int (zI (co 2 (i : Int) + 1 - (co 2 k + 1)))), (3, .int (zI (i : Int))), (2, .int (zI (sumZ (fun j => bz (co 3 j = 0 ∧ cbC co j k)) i))), (0, .ref b), (1, .int (zI k))]) rfl ?_
      refine v_aload_n X dX10_rankOf_39 40 rfl 3 rfl ?_
      refine v_iload_n X dX10_rankOf_40 41 rfl 1 rfl ?_
      refine v_iconst X dX10_rankOf_41 42 rfl ?_
      refine v_rdV X hC h_mo (c_X10_c_5 l E b mo co (i : Int) hO hR (by omega) (by omega)) kvX10_c kiX10_c kl_X10_47 rfl rfl (As := [.int (zI (i : Int)), .int (zI 5)]) rfl rfl rfl dX10_rankOf_42 45 rfl ?_
      show V p l e (rmL 2 0 0) s m args below meth cd Q 6 s.heap [] 0 0 45 [(4, .int (zI (co 2 (i : Int) + 1 - (co 2 k + 1)))), (3, .int (zI (i : Int))), (2, .int (zI (sumZ (fun j => bz (co 3 j = 0 ∧ cbC co j k)) i))), (0, .ref b), (1, .int (zI k))] [.int (zI (co 6 (i : Int)))]
      have hb_8 := hO.b6 (i : Int)
      refine v_aload_n X dX10_rankOf_45 46 rfl 3 rfl ?_
      refine v_iload_n X dX10_rankOf_46 47 rfl 4 rfl ?_
      refine v_iconst X dX10_rankOf_47 48 rfl ?_
      refine v_rdV X hC h_mo (c_X10_c_5 l E b mo co k hO hR k0 k1) kvX10_c kiX10_c kl_X10_47 rfl rfl (As := [.int (zI k), .int (zI 5)]) rfl rfl rfl dX10_rankOf_48 51 rfl ?_
      show V p l e (rmL 2 0 0) s m args below meth cd Q 6 s.heap [] 0 0 51 [(4, .int (zI (co 2 (i : Int) + 1 - (co 2 k + 1)))), (3, .int (zI (i : Int))), (2, .int (zI (sumZ (fun j => bz (co 3 j = 0 ∧ cbC co j k)) i))), (0, .ref b), (1, .int (zI k))] [.int (zI (co 6 k)), .int (zI (co 6 (i : Int)))]
      have hb_9 := hO.b6 k
      refine v_isub X dX10_rankOf_51 52 rfl ?_
      refine v_istore X dX10_rankOf_52 54 rfl (by decide) (L' := [(5, .int (zI (co 6 (i : Int) - co 6 k))), (4, .int (zI (co 2 (i : Int) + 1 - (co 2 k + 1)))), (3, .int (zI (i : Int))), (2, .int (zI (sumZ (fun j => bz (co 3 j = 0 ∧ cbC co j k)) i))), (0, .ref b), (1, .int (zI k))]) rfl ?_
      refine v_iload_n X dX10_rankOf_54 55 rfl 3 rfl ?_
      refine v_iload X dX10_rankOf_55 57 rfl 1 rfl ?_
      refine v_if_gt X (by omega) dX10_rankOf_57 60 80 rfl (by decide) (fun c_10 => ?_) (fun c_10 => ?_)
      · skip
        refine v_iconst X dX10_rankOf_80 81 rfl ?_
        refine v_goto X dX10_rankOf_81 85 (by decide) ?_
        refine v_iadd X dX10_rankOf_85 86 rfl ?_
        refine v_istore_n X dX10_rankOf_86 87 rfl rfl (by decide) (L' := [(2, .int (zI (sumZ (fun j => bz (co 3 j = 0 ∧ cbC co j k)) i + 1))), (5, .int (zI (co 6 (i : Int) - co 6 k))), (4, .int (zI (co 2 (i : Int) + 1 - (co 2 k + 1)))), (3, .int (zI (i : Int))), (0, .ref b), (1, .int (zI k))]) rfl ?_
        refine v_iinc X dX10_rankOf_87 90 rfl 3 rfl (by decide) (L' := [(3, .int (zI ((i : Int) + 1))), (2, .int (zI (sumZ (fun j => bz (co 3 j = 0 ∧ cbC co j k)) i + 1))), (5, .int (zI (co 6 (i : Int) - co 6 k))), (4, .int (zI (co 2 (i : Int) + 1 - (co 2 k + 1)))), (0, .ref b), (1, .int (zI k))]) rfl ?_
        refine v_goto X dX10_rankOf_90 4 (by decide) ?_
        refine v_locals [0, 1, 4, 5] (L' := [(3, .int (zI ((i : Int) + 1))), (2, .int (zI (sumZ (fun j => bz (co 3 j = 0 ∧ cbC co j k)) i + 1))), (0, .ref b), (1, .int (zI k))]) rfl ?_
        exact V_L (L' := [(3, .int (zI ((i + 1 : Nat) : Int))), (2, .int (zI (sumZ (fun j => bz (co 3 j = 0 ∧ cbC co j k)) (i + 1)))), (0, .ref b), (1, .int (zI k))]) (LC (vz (by omega)) (LC (vz (by first | rw [sumZ_s, bz_t (φ := co 3 (i : Int) = 0 ∧ cbC co (i : Int) k) (by unfold cbC; omega)] | (rw [sumZ_s, bz_f (φ := co 3 (i : Int) = 0 ∧ cbC co (i : Int) k) (by unfold cbC; omega)] <;> omega))) (LC rfl (LC rfl rfl)))) (ih_i (by omega))
      · skip
        refine v_iload X dX10_rankOf_60 62 rfl 1 rfl ?_
        refine v_if_ne X (by omega) dX10_rankOf_62 65 84 rfl (by decide) (fun c_11 => ?_) (fun c_11 => ?_)
        · skip
          refine v_iconst X dX10_rankOf_84 85 rfl ?_
          refine v_iadd X dX10_rankOf_85 86 rfl ?_
          refine v_istore_n X dX10_rankOf_86 87 rfl rfl (by decide) (L' := [(2, .int (zI (sumZ (fun j => bz (co 3 j = 0 ∧ cbC co j k)) i + 0))), (5, .int (zI (co 6 (i : Int) - co 6 k))), (4, .int (zI (co 2 (i : Int) + 1 - (co 2 k + 1)))), (3, .int (zI (i : Int))), (0, .ref b), (1, .int (zI k))]) rfl ?_
          refine v_iinc X dX10_rankOf_87 90 rfl 3 rfl (by decide) (L' := [(3, .int (zI ((i : Int) + 1))), (2, .int (zI (sumZ (fun j => bz (co 3 j = 0 ∧ cbC co j k)) i + 0))), (5, .int (zI (co 6 (i : Int) - co 6 k))), (4, .int (zI (co 2 (i : Int) + 1 - (co 2 k + 1)))), (0, .ref b), (1, .int (zI k))]) rfl ?_
          refine v_goto X dX10_rankOf_90 4 (by decide) ?_
          refine v_locals [0, 1, 4, 5] (L' := [(3, .int (zI ((i : Int) + 1))), (2, .int (zI (sumZ (fun j => bz (co 3 j = 0 ∧ cbC co j k)) i + 0))), (0, .ref b), (1, .int (zI k))]) rfl ?_
          exact V_L (L' := [(3, .int (zI ((i + 1 : Nat) : Int))), (2, .int (zI (sumZ (fun j => bz (co 3 j = 0 ∧ cbC co j k)) (i + 1)))), (0, .ref b), (1, .int (zI k))]) (LC (vz (by omega)) (LC (vz (by first | rw [sumZ_s, bz_t (φ := co 3 (i : Int) = 0 ∧ cbC co (i : Int) k) (by unfold cbC; omega)] | (rw [sumZ_s, bz_f (φ := co 3 (i : Int) = 0 ∧ cbC co (i : Int) k) (by unfold cbC; omega)] <;> omega))) (LC rfl (LC rfl rfl)))) (ih_i (by omega))
        · skip
          refine v_iload X dX10_rankOf_65 67 rfl 0 rfl ?_
          refine v_if_gt X (by omega) dX10_rankOf_67 70 80 rfl (by decide) (fun c_12 => ?_) (fun c_12 => ?_)
          · skip
            refine v_iconst X dX10_rankOf_80 81 rfl ?_
            refine v_goto X dX10_rankOf_81 85 (by decide) ?_
            refine v_iadd X dX10_rankOf_85 86 rfl ?_
            refine v_istore_n X dX10_rankOf_86 87 rfl rfl (by decide) (L' := [(2, .int (zI (sumZ (fun j => bz (co 3 j = 0 ∧ cbC co j k)) i + 1))), (5, .int (zI (co 6 (i : Int) - co 6 k))), (4, .int (zI (co 2 (i : Int) + 1 - (co 2 k + 1)))), (3, .int (zI (i : Int))), (0, .ref b), (1, .int (zI k))]) rfl ?_
            refine v_iinc X dX10_rankOf_87 90 rfl 3 rfl (by decide) (L' := [(3, .int (zI ((i : Int) + 1))), (2, .int (zI (sumZ (fun j => bz (co 3 j = 0 ∧ cbC co j k)) i + 1))), (5, .int (zI (co 6 (i : Int) - co 6 k))), (4, .int (zI (co 2 (i : Int) + 1 - (co 2 k + 1)))), (0, .ref b), (1, .int (zI k))]) rfl ?_
            refine v_goto X dX10_rankOf_90 4 (by decide) ?_
            refine v_locals [0, 1, 4, 5] (L' := [(3, .int (zI ((i : Int) + 1))), (2, .int (zI (sumZ (fun j => bz (co 3 j = 0 ∧ cbC co j k)) i + 1))), (0, .ref b), (1, .int (zI k))]) rfl ?_
            exact V_L (L' := [(3, .int (zI ((i + 1 : Nat) : Int))), (2, .int (zI (sumZ (fun j => bz (co 3 j = 0 ∧ cbC co j k)) (i + 1)))), (0, .ref b), (1, .int (zI k))]) (LC (vz (by omega)) (LC (vz (by first | rw [sumZ_s, bz_t (φ := co 3 (i : Int) = 0 ∧ cbC co (i : Int) k) (by unfold cbC; omega)] | (rw [sumZ_s, bz_f (φ := co 3 (i : Int) = 0 ∧ cbC co (i : Int) k) (by unfold cbC; omega)] <;> omega))) (LC rfl (LC rfl rfl)))) (ih_i (by omega))
          · skip
            refine v_iload X dX10_rankOf_70 72 rfl 0 rfl ?_
            refine v_if_ne X (by omega) dX10_rankOf_72 75 84 rfl (by decide) (fun c_13 => ?_) (fun c_13 => ?_)
            · skip
              refine v_iconst X dX10_rankOf_84 85 rfl ?_
              refine v_iadd X dX10_rankOf_85 86 rfl ?_
              refine v_istore_n X dX10_rankOf_86 87 rfl rfl (by decide) (L' := [(2, .int (zI (sumZ (fun j => bz (co 3 j = 0 ∧ cbC co j k)) i + 0))), (5, .int (zI (co 6 (i : Int) - co 6 k))), (4, .int (zI (co 2 (i : Int) + 1 - (co 2 k + 1)))), (3, .int (zI (i : Int))), (0, .ref b), (1, .int (zI k))]) rfl ?_
              refine v_iinc X dX10_rankOf_87 90 rfl 3 rfl (by decide) (L' := [(3, .int (zI ((i : Int) + 1))), (2, .int (zI (sumZ (fun j => bz (co 3 j = 0 ∧ cbC co j k)) i + 0))), (5, .int (zI (co 6 (i : Int) - co 6 k))), (4, .int (zI (co 2 (i : Int) + 1 - (co 2 k + 1)))), (0, .ref b), (1, .int (zI k))]) rfl ?_
              refine v_goto X dX10_rankOf_90 4 (by decide) ?_
              refine v_locals [0, 1, 4, 5] (L' := [(3, .int (zI ((i : Int) + 1))), (2, .int (zI (sumZ (fun j => bz (co 3 j = 0 ∧ cbC co j k)) i + 0))), (0, .ref b), (1, .int (zI k))]) rfl ?_
              exact V_L (L' := [(3, .int (zI ((i + 1 : Nat) : Int))), (2, .int (zI (sumZ (fun j => bz (co 3 j = 0 ∧ cbC co j k)) (i + 1)))), (0, .ref b), (1, .int (zI k))]) (LC (vz (by omega)) (LC (vz (by first | rw [sumZ_s, bz_t (φ := co 3 (i : Int) = 0 ∧ cbC co (i : Int) k) (by unfold cbC; omega)] | (rw [sumZ_s, bz_f (φ := co 3 (i : Int) = 0 ∧ cbC co (i : Int) k) (by unfold cbC; omega)] <;> omega))) (LC rfl (LC rfl rfl)))) (ih_i (by omega))
            · skip
              refine v_iload_n X dX10_rankOf_75 76 rfl 2 rfl ?_
              refine v_iload_n X dX10_rankOf_76 77 rfl 5 rfl ?_
              refine v_icmp_ge X (by omega) (by omega) dX10_rankOf_77 80 84 rfl (by decide) (fun c_14 => ?_) (fun c_14 => ?_)
              · skip
                refine v_iconst X dX10_rankOf_84 85 rfl ?_
                refine v_iadd X dX10_rankOf_85 86 rfl ?_
                refine v_istore_n X dX10_rankOf_86 87 rfl rfl (by decide) (L' := [(2, .int (zI (sumZ (fun j => bz (co 3 j = 0 ∧ cbC co j k)) i + 0))), (5, .int (zI (co 6 (i : Int) - co 6 k))), (4, .int (zI (co 2 (i : Int) + 1 - (co 2 k + 1)))), (3, .int (zI (i : Int))), (0, .ref b), (1, .int (zI k))]) rfl ?_
                refine v_iinc X dX10_rankOf_87 90 rfl 3 rfl (by decide) (L' := [(3, .int (zI ((i : Int) + 1))), (2, .int (zI (sumZ (fun j => bz (co 3 j = 0 ∧ cbC co j k)) i + 0))), (5, .int (zI (co 6 (i : Int) - co 6 k))), (4, .int (zI (co 2 (i : Int) + 1 - (co 2 k + 1)))), (0, .ref b), (1, .int (zI k))]) rfl ?_
                refine v_goto X dX10_rankOf_90 4 (by decide) ?_
                refine v_locals [0, 1, 4, 5] (L' := [(3, .int (zI ((i : Int) + 1))), (2, .int (zI (sumZ (fun j => bz (co 3 j = 0 ∧ cbC co j k)) i + 0))), (0, .ref b), (1, .int (zI k))]) rfl ?_
                exact V_L (L' := [(3, .int (zI ((i + 1 : Nat) : Int))), (2, .int (zI (sumZ (fun j => bz (co 3 j = 0 ∧ cbC co j k)) (i + 1)))), (0, .ref b), (1, .int (zI k))]) (LC (vz (by omega)) (LC (vz (by first | rw [sumZ_s, bz_t (φ := co 3 (i : Int) = 0 ∧ cbC co (i : Int) k) (by unfold cbC; omega)] | (rw [sumZ_s, bz_f (φ := co 3 (i : Int) = 0 ∧ cbC co (i : Int) k) (by unfold cbC; omega)] <;> omega))) (LC rfl (LC rfl rfl)))) (ih_i (by omega))
              · skip
                refine v_iconst X dX10_rankOf_80 81 rfl ?_
                refine v_goto X dX10_rankOf_81 85 (by decide) ?_
                refine v_iadd X dX10_rankOf_85 86 rfl ?_
                refine v_istore_n X dX10_rankOf_86 87 rfl rfl (by decide) (L' := [(2, .int (zI (sumZ (fun j => bz (co 3 j = 0 ∧ cbC co j k)) i + 1))), (5, .int (zI (co 6 (i : Int) - co 6 k))), (4, .int (zI (co 2 (i : Int) + 1 - (co 2 k + 1)))), (3, .int (zI (i : Int))), (0, .ref b), (1, .int (zI k))]) rfl ?_
                refine v_iinc X dX10_rankOf_87 90 rfl 3 rfl (by decide) (L' := [(3, .int (zI ((i : Int) + 1))), (2, .int (zI (sumZ (fun j => bz (co 3 j = 0 ∧ cbC co j k)) i + 1))), (5, .int (zI (co 6 (i : Int) - co 6 k))), (4, .int (zI (co 2 (i : Int) + 1 - (co 2 k + 1)))), (0, .ref b), (1, .int (zI k))]) rfl ?_
                refine v_goto X dX10_rankOf_90 4 (by decide) ?_
                refine v_locals [0, 1, 4, 5] (L' := [(3, .int (zI ((i : Int) + 1))), (2, .int (zI (sumZ (fun j => bz (co 3 j = 0 ∧ cbC co j k)) i + 1))), (0, .ref b), (1, .int (zI k))]) rfl ?_
                exact V_L (L' := [(3, .int (zI ((i + 1 : Nat) : Int))), (2, .int (zI (sumZ (fun j => bz (co 3 j = 0 ∧ cbC co j k)) (i + 1)))), (0, .ref b), (1, .int (zI k))]) (LC (vz (by omega)) (LC (vz (by first | rw [sumZ_s, bz_t (φ := co 3 (i : Int) = 0 ∧ cbC co (i : Int) k) (by unfold cbC; omega)] | (rw [sumZ_s, bz_f (φ := co 3 (i : Int) = 0 ∧ cbC co (i : Int) k) (by unfold cbC; omega)] <;> omega))) (LC rfl (LC rfl rfl)))) (ih_i (by omega))
    · skip
      refine v_goto X dX10_rankOf_23 87 (by decide) ?_
      refine v_iinc X dX10_rankOf_87 90 rfl 0 rfl (by decide) (L' := [(3, .int (zI ((i : Int) + 1))), (2, .int (zI (sumZ (fun j => bz (co 3 j = 0 ∧ cbC co j k)) i))), (0, .ref b), (1, .int (zI k))]) rfl ?_
      refine v_goto X dX10_rankOf_90 4 (by decide) ?_
      exact V_L (L' := [(3, .int (zI ((i + 1 : Nat) : Int))), (2, .int (zI (sumZ (fun j => bz (co 3 j = 0 ∧ cbC co j k)) (i + 1)))), (0, .ref b), (1, .int (zI k))]) (LC (vz (by omega)) (LC (vz (by first | rw [sumZ_s, bz_t (φ := co 3 (i : Int) = 0 ∧ cbC co (i : Int) k) (by unfold cbC; omega)] | (rw [sumZ_s, bz_f (φ := co 3 (i : Int) = 0 ∧ cbC co (i : Int) k) (by unfold cbC; omega)] <;> omega))) (LC rfl (LC rfl rfl)))) (ih_i (by omega))
