theorem ksm_J5_putStringAt_47b60 : Cond.sameMethod yJ5_putStringAt_47b60.cls yJ5_putStringAt_47b60.cls yJ5_putStringAt_47b60.name yJ5_putStringAt_47b60.desc ∈ WA := WA_of (i := 1491) (by decide +kernel) (by decide +kernel)
theorem kim_J5_putStringAt_47b60 : Cond.instanceMethod yJ5_putStringAt_47b60 ∈ WA := WA_of (i := 959) (by decide +kernel) (by decide +kernel)
theorem ksm_J5_inflateIfNeededFor_a7421 : Cond.sameMethod yJ5_inflateIfNeededFor_a7421.cls yJ5_inflateIfNeededFor_a7421.cls yJ5_inflateIfNeededFor_a7421.name yJ5_inflateIfNeededFor_a7421.desc ∈ WA := WA_of (i := 1492) (by decide +kernel) (by decide +kernel)
theorem kim_J5_inflateIfNeededFor_a7421 : Cond.instanceMethod yJ5_inflateIfNeededFor_a7421 ∈ WA := WA_of (i := 963) (by decide +kernel) (by decide +kernel)
theorem ksm_J5_getValue_6d5f1 : Cond.sameMethod yJ5_getValue_6d5f1.cls yJ5_getValue_6d5f1.cls yJ5_getValue_6d5f1.name yJ5_getValue_6d5f1.desc ∈ WA := WA_of (i := 1031) (by decide +kernel) (by decide +kernel)
theorem kim_J5_getValue_6d5f1 : Cond.instanceMethod yJ5_getValue_6d5f1 ∈ WA := WA_of (i := 1030) (by decide +kernel) (by decide +kernel)
theorem ksl_J5_getValue_6d5f1 : Cond.selects RJ4 yJ5_getValue_6d5f1 yJ5_getValue_6d5f1 ∈ WA := WA_of (i := 1032) (by decide +kernel) (by decide +kernel)
theorem ksm_J5_append_cf1ce : Cond.sameMethod yJ5_append_cf1ce.cls yJ5_append_cf1ce.cls yJ5_append_cf1ce.name yJ5_append_cf1ce.desc ∈ WA := WA_of (i := 1487) (by decide +kernel) (by decide +kernel)
theorem kim_J5_append_cf1ce : Cond.instanceMethod yJ5_append_cf1ce ∈ WA := WA_of (i := 876) (by decide +kernel) (by decide +kernel)
theorem ksl2_J4_length : Cond.selects RJ4 yJ5_length_8abf5 yJ4_length_8abf5 ∈ WA := WA_of (i := 1037) (by decide +kernel) (by decide +kernel)
set_option maxHeartbeats 4000000 in
set_option maxRecDepth 20000 in
theorem c_J0_coderK (l : Launch) (E : Nat → Nat → Nat) (q : Nat) (hq : q < 13) : Rd l yJ0_coder_7d493 cJ0_coder_7d493 1 (some .byte) 0 E [.ref (E 105 (35 + q))] ([]) (some (.int (zI 0))) := by
  refine Rd.start (own := RJ0) rfl (by decide +kernel) (Nat.le_of_ble_eq_true rfl) ?_
  intro p e s m below meth cd args Q hQ X hr hlk hC hP
  refine v_comp X hC kf_J0_38 dJ0_coder_7d493_0 3 rfl ?_
  refine v_if_eq X (by omega) dJ0_coder_7d493_3 6 13 rfl (by decide) (fun c_1 => ?_) (fun c_1 => ?_)
  · skip
    exfalso; omega
  · skip
    refine v_aload_n X dJ0_coder_7d493_6 7 rfl 0 rfl ?_
    refine v_kwc X hC hq kf_J0_15 dJ0_coder_7d493_7 10 rfl ?_
    refine v_goto X dJ0_coder_7d493_10 14 (by decide) ?_
    subst hQ; exact v_bret0 X hr hlk dJ0_coder_7d493_14 rfl
set_option maxHeartbeats 4000000 in
set_option maxRecDepth 20000 in
theorem c_J0_coderO (l : Launch) (E : Nat → Nat → Nat) (o : Nat) (u : Nat) : Rd l yJ0_coder_7d493 cJ0_coder_7d493 1 (some .byte) 0 E [.ref o] ([(o, .inr (0, [.ref u, .int (zI 0), .int (zI 0), .int (zI 0)]))]) (some (.int (zI 0))) := by
  refine Rd.start (own := RJ0) rfl (by decide +kernel) (Nat.le_of_ble_eq_true rfl) ?_
  intro p e s m below meth cd args Q hQ X hr hlk hC hP
  have h_so := hP
  refine v_comp X hC kf_J0_38 dJ0_coder_7d493_0 3 rfl ?_
  refine v_if_eq X (by omega) dJ0_coder_7d493_3 6 13 rfl (by decide) (fun c_1 => ?_) (fun c_1 => ?_)
  · skip
    exfalso; omega
  · skip
    refine v_aload_n X dJ0_coder_7d493_6 7 rfl 0 rfl ?_
    refine v_getf X hC h_so inJ0 0 rfl rfl 1 (by decide) kf_J0_15 (fun _ h => h) rfl dJ0_coder_7d493_7 10 rfl ?_
    show V p l e (rmL 0 0 0) s m args below meth cd Q 1 s.heap [] 0 0 10 [(0, .ref o)] [.int (zI 0)]
    refine v_goto X dJ0_coder_7d493_10 14 (by decide) ?_
    subst hQ; exact v_bret0 X hr hlk dJ0_coder_7d493_14 rfl
set_option maxHeartbeats 4000000 in
set_option maxRecDepth 20000 in
theorem c_J0_isLatin1O (l : Launch) (E : Nat → Nat → Nat) (o : Nat) (u : Nat) : Rd l yJ0_isLatin1_aae02 cJ0_isLatin1_aae02 1 (some .boolean) 0 E [.ref o] ([(o, .inr (0, [.ref u, .int (zI 0), .int (zI 0), .int (zI 0)]))]) (some (.int (zI (bz ((0 : Int) = 0))))) := by
  refine Rd.start (own := RJ0) rfl (by decide +kernel) (Nat.le_of_ble_eq_true rfl) ?_
  intro p e s m below meth cd args Q hQ X hr hlk hC hP
  have h_so := hP
  refine v_comp X hC kf_J0_38 dJ0_isLatin1_aae02_0 3 rfl ?_
  refine v_if_eq X (by omega) dJ0_isLatin1_aae02_3 6 17 rfl (by decide) (fun c_1 => ?_) (fun c_1 => ?_)
  · skip
    exfalso; omega
  · skip
    refine v_aload_n X dJ0_isLatin1_aae02_6 7 rfl 0 rfl ?_
    refine v_getf X hC h_so inJ0 0 rfl rfl 1 (by decide) kf_J0_15 (fun _ h => h) rfl dJ0_isLatin1_aae02_7 10 rfl ?_
    show V p l e (rmL 0 0 0) s m args below meth cd Q 1 s.heap [] 0 0 10 [(0, .ref o)] [.int (zI 0)]
    refine v_if_ne X (by omega) dJ0_isLatin1_aae02_10 13 17 rfl (by decide) (fun c_2 => ?_) (fun c_2 => ?_)
    · skip
      exfalso; omega
    · skip
      refine v_iconst X dJ0_isLatin1_aae02_13 14 rfl ?_
      refine v_goto X dJ0_isLatin1_aae02_14 18 (by decide) ?_
      subst hQ; exact v_zret0 X hr hlk dJ0_isLatin1_aae02_18 (bz_t (by omega))
set_option maxHeartbeats 4000000 in
set_option maxRecDepth 20000 in
theorem c_J0_lengthK (l : Launch) (E : Nat → Nat → Nat) (q : Nat) (hq : q < 13) : Rd l yJ0_length_8abf5 cJ0_length_8abf5 1 (some .int) 1 E [.ref (E 105 (35 + q))] ([]) (some (.int (zI (kwLen q)))) := by
  refine Rd.start (own := RJ0) rfl (by decide +kernel) (Nat.le_of_ble_eq_true rfl) ?_
  intro p e s m below meth cd args Q hQ X hr hlk hC hP
  have hkl := kwLen_b hq
  refine v_aload_n X dJ0_length_8abf5_0 1 rfl 0 rfl ?_
  refine v_kwg X hC hq kf_J0_9 dJ0_length_8abf5_1 4 rfl ?_
  refine v_kwl X hC hq dJ0_length_8abf5_4 5 rfl ?_
  refine v_aload_n X dJ0_length_8abf5_5 6 rfl 0 rfl ?_
  refine v_rdK X hC hq (c_J0_coderK l E q hq) kvJ0_coder_7d493 kiJ0_coder_7d493 rfl kl_J0_335 (As := []) rfl rfl rfl dJ0_length_8abf5_6 9 rfl ?_
  show V p l e (rmL 1 0 0) s m args below meth cd Q 1 s.heap [] 0 0 9 [(0, .ref (E 105 (35 + q)))] [.int (zI 0), .int (zI (kwLen q))]
  refine v_ishr0 X dJ0_length_8abf5_9 10 rfl ?_
  subst hQ; exact v_iret0 X hr hlk dJ0_length_8abf5_10 rfl
set_option maxHeartbeats 4000000 in
set_option maxRecDepth 20000 in
theorem c_J0_lengthO (l : Launch) (E : Nat → Nat → Nat) (o : Nat) (u : Nat) (M : Nat) (g : Int → Int) (M1 : M < 1000) : Rd l yJ0_length_8abf5 cJ0_length_8abf5 1 (some .int) 1 E [.ref o] ([(o, .inr (0, [.ref u, .int (zI 0), .int (zI 0), .int (zI 0)]))] ++ [(u, .inl (E 102 2, M, .inl (zA g)))]) (some (.int (zI (M : Int)))) := by
  refine Rd.start (own := RJ0) rfl (by decide +kernel) (Nat.le_of_ble_eq_true rfl) ?_
  intro p e s m below meth cd args Q hQ X hr hlk hC hP
  have h_sg := PW.right hP
  have h_so := (PW.left hP)
  refine v_aload_n X dJ0_length_8abf5_0 1 rfl 0 rfl ?_
  refine v_getf X hC h_so inJ0 0 rfl rfl 0 (by decide) kf_J0_9 (fun _ h => h) rfl dJ0_length_8abf5_1 4 rfl ?_
  refine v_alen X hC h_sg 0 2 rfl rfl dJ0_length_8abf5_4 5 rfl ?_
  refine v_aload_n X dJ0_length_8abf5_5 6 rfl 0 rfl ?_
  refine v_rdV X hC h_so (c_J0_coderO l E o u) kvJ0_coder_7d493 kiJ0_coder_7d493 kl_J0_335 rfl rfl (As := []) rfl rfl rfl dJ0_length_8abf5_6 9 rfl ?_
  show V p l e (rmL 1 0 0) s m args below meth cd Q 1 s.heap [] 0 0 9 [(0, .ref o)] [.int (zI 0), .int (zI (M : Int))]
  refine v_ishr0 X dJ0_length_8abf5_9 10 rfl ?_
  subst hQ; exact v_iret0 X hr hlk dJ0_length_8abf5_10 rfl
set_option maxHeartbeats 4000000 in
set_option maxRecDepth 20000 in
theorem c_J1_charAtO (l : Launch) (E : Nat → Nat → Nat) (u : Nat) (M : Nat) (g : Int → Int) (i : Int) (i0 : 0 ≤ i) (i1 : i < (M : Int)) (M1 : M < 1000) (hg : ∀ j : Int, 0 ≤ g j ∧ g j < 128) : Rd l yJ1_charAt_3b067 cJ1_charAt_3b067 2 (some .char) 2 E [.ref u, .int (zI i)] ([(u, .inl (E 102 2, M, .inl (zA g)))]) (some (.int (zI (g i)))) := by
  refine Rd.start (own := RJ1) rfl (by decide +kernel) (Nat.le_of_ble_eq_true rfl) ?_
  intro p e s m below meth cd args Q hQ X hr hlk hC hP
  have h_sg := hP
  refine v_iload_n X dJ1_charAt_3b067_0 1 rfl 1 rfl ?_
  refine v_aload_n X dJ1_charAt_3b067_1 2 rfl 0 rfl ?_
  refine v_alen X hC h_sg 0 2 rfl rfl dJ1_charAt_3b067_2 3 rfl ?_
  refine v_rdS X hC (ws0 E s.heap) (c_J0_checkIndex_df160 l E i (M : Int) i0 i1 (by omega)) kvJ0_checkIndex_df160 ksJ0_checkIndex_df160 kl_J1_9 (As := [.int (zI i), .int (zI (M : Int))]) rfl rfl rfl dJ1_charAt_3b067_3 6 rfl ?_
  show V p l e (rmL 2 0 0) s m args below meth cd Q 2 s.heap [] 0 0 6 [(0, .ref u), (1, .int (zI i))] []
  refine v_aload_n X dJ1_charAt_3b067_6 7 rfl 0 rfl ?_
  refine v_iload_n X dJ1_charAt_3b067_7 8 rfl 1 rfl ?_
  refine v_bald X hC h_sg 0 rfl (by omega) (by omega) (by omega) dJ1_charAt_3b067_8 9 rfl ?_
  refine v_sipush X dJ1_charAt_3b067_9 12 rfl rfl ?_
  refine v_iandL X (hg i) dJ1_charAt_3b067_12 13 rfl ?_
  refine v_i2cL X (hg i) dJ1_charAt_3b067_13 14 rfl ?_
  subst hQ; exact v_cret0 X (hg i) hr hlk dJ1_charAt_3b067_14 rfl
set_option maxHeartbeats 4000000 in
set_option maxRecDepth 20000 in
theorem c_J0_charAtO (l : Launch) (E : Nat → Nat → Nat) (o : Nat) (u : Nat) (M : Nat) (g : Int → Int) (i : Int) (i0 : 0 ≤ i) (i1 : i < (M : Int)) (M1 : M < 1000) (hg : ∀ j : Int, 0 ≤ g j ∧ g j < 128) : Rd l yJ0_charAt_5068e cJ0_charAt_5068e 2 (some .char) 3 E [.ref o, .int (zI i)] ([(o, .inr (0, [.ref u, .int (zI 0), .int (zI 0), .int (zI 0)]))] ++ [(u, .inl (E 102 2, M, .inl (zA g)))]) (some (.int (zI (g i)))) := by
  refine Rd.start (own := RJ0) rfl (by decide +kernel) (Nat.le_of_ble_eq_true rfl) ?_
  intro p e s m below meth cd args Q hQ X hr hlk hC hP
  have h_sg := PW.right hP
  have h_so := (PW.left hP)
  refine v_aload_n X dJ0_charAt_5068e_0 1 rfl 0 rfl ?_
  refine v_rdV X hC h_so (c_J0_isLatin1O l E o u) kvJ0_isLatin1_aae02 kiJ0_isLatin1_aae02 kl_J0_492 rfl rfl (As := []) rfl rfl rfl dJ0_charAt_5068e_1 4 rfl ?_
  show V p l e (rmL 3 0 0) s m args below meth cd Q 2 s.heap [] 0 0 4 [(0, .ref o), (1, .int (zI i))] [.int (zI (bz ((0 : Int) = 0)))]
  refine v_bif_eq X dJ0_charAt_5068e_4 7 16 rfl (by decide) (fun c_1 => ?_) (fun c_1 => ?_)
  · skip
    exfalso; omega
  · skip
    refine v_aload_n X dJ0_charAt_5068e_7 8 rfl 0 rfl ?_
    refine v_getf X hC h_so inJ0 0 rfl rfl 0 (by decide) kf_J0_9 (fun _ h => h) rfl dJ0_charAt_5068e_8 11 rfl ?_
    refine v_iload_n X dJ0_charAt_5068e_11 12 rfl 1 rfl ?_
    refine v_rdS X hC h_sg (c_J1_charAtO l E u M g i i0 i1 M1 hg) kvJ1_charAt_3b067 ksJ1_charAt_3b067 kl_J0_495 (As := [.ref u, .int (zI i)]) rfl rfl rfl dJ0_charAt_5068e_12 15 rfl ?_
    show V p l e (rmL 3 0 0) s m args below meth cd Q 2 s.heap [] 0 0 15 [(0, .ref o), (1, .int (zI i))] [.int (zI (g i))]
    subst hQ; exact v_cret0 X (hg i) hr hlk dJ0_charAt_5068e_15 rfl
set_option maxHeartbeats 4000000 in
set_option maxRecDepth 20000 in
theorem c_J0_getBytesK (l : Launch) (E : Nat → Nat → Nat) (q : Nat) (v : Nat) (N : Nat) (f : Int → Int) (n : Int) (hq : q < 13) (n0 : 0 ≤ n) (n1 : n + kwLen q ≤ (N : Int)) (N1 : N < 1000) : Mu l yJ0_getBytes_840e7 cJ0_getBytes_840e7 4 none 1 0 0 E [(v, 1)] [.ref (E 105 (35 + q)), .ref v, .int (zI n), .int (zI 0)] (fun H => PR E v [(v, .inl (E 102 2, N, .inl (zA f)))] H) (fun rv H => rv = none ∧ PR E v [(v, .inl (E 102 2, N, .inl (zA (cpD f (kwZ q) n (kwLen q)))))] H) := by
  refine Mu.start (own := RJ0) rfl (by decide +kernel) (Nat.le_of_ble_eq_true rfl) ?_
  intro p e s m below meth cd args Q hQ X hr hlk hnm hM hPr
  have h_sa := hPr
  have hkl := kwLen_b hq
  refine v_aload_n X dJ0_getBytes_840e7_0 1 rfl 0 rfl ?_
  refine v_rdK X hM.C hq (c_J0_coderK l E q hq) kvJ0_coder_7d493 kiJ0_coder_7d493 rfl kl_J0_335 (As := []) rfl rfl rfl dJ0_getBytes_840e7_1 4 rfl ?_
  show V p l e (rmL 1 0 0) s m args below meth cd Q 4 s.heap [] 0 0 4 [(0, .ref (E 105 (35 + q))), (1, .ref v), (2, .int (zI n)), (3, .int (zI 0))] [.int (zI 0)]
  refine v_iload_n X dJ0_getBytes_840e7_4 5 rfl 3 rfl ?_
  refine v_icmp_ne X (by omega) (by omega) dJ0_getBytes_840e7_5 8 28 rfl (by decide) (fun c_1 => ?_) (fun c_1 => ?_)
  · skip
    exfalso; omega
  · skip
    refine v_aload_n X dJ0_getBytes_840e7_8 9 rfl 0 rfl ?_
    refine v_kwg X hM.C hq kf_J0_9 dJ0_getBytes_840e7_9 12 rfl ?_
    refine v_iconst X dJ0_getBytes_840e7_12 13 rfl ?_
    refine v_aload_n X dJ0_getBytes_840e7_13 14 rfl 1 rfl ?_
    refine v_iload_n X dJ0_getBytes_840e7_14 15 rfl 2 rfl ?_
    refine v_iload_n X dJ0_getBytes_840e7_15 16 rfl 3 rfl ?_
    refine v_ishl0 X dJ0_getBytes_840e7_16 17 rfl ?_
    refine v_aload_n X dJ0_getBytes_840e7_17 18 rfl 0 rfl ?_
    refine v_kwg X hM.C hq kf_J0_9 dJ0_getBytes_840e7_18 21 rfl ?_
    refine v_kwl X hM.C hq dJ0_getBytes_840e7_21 22 rfl ?_
    refine v_copyK (q1 := 0) X hM hq h_sa rfl (by omega) (by omega) (by omega) (Or.inl (fsH (by omega) (by omega))) kl_J0_212 rfl dJ0_getBytes_840e7_22 25 rfl (ws' := [(v, .inl (E 102 2, N, .inl (zA (cpD f (kwZ q) n (kwLen q)))))]) rfl (fun H2 lo2 hzz hM hF h_sa => ?_)
    clear hzz
    refine v_goto X dJ0_getBytes_840e7_25 43 (by decide) ?_
    subst hQ; exact m_vret X hr hlk hM dJ0_getBytes_840e7_43 rfl ⟨rfl, h_sa⟩
set_option maxHeartbeats 4000000 in
set_option maxRecDepth 20000 in
theorem c_J0_getBytesO (l : Launch) (E : Nat → Nat → Nat) (o : Nat) (u : Nat) (M : Nat) (g : Int → Int) (v : Nat) (N : Nat) (f : Int → Int) (n : Int) (n0 : 0 ≤ n) (n1 : n + (M : Int) ≤ (N : Int)) (N1 : N < 1000) (hg : ∀ j : Int, 0 ≤ g j ∧ g j < 128) (hd_so_sa : o + 1 ≤ v ∨ v + 1 ≤ o) (hd_sa_sg : v + 1 ≤ u ∨ u + 1 ≤ v) : Mu l yJ0_getBytes_840e7 cJ0_getBytes_840e7 4 none 1 0 0 E [(v, 1)] [.ref o, .ref v, .int (zI n), .int (zI 0)] (fun H => PR E o [(o, .inr (0, [.ref u, .int (zI 0), .int (zI 0), .int (zI 0)]))] H ∧ PR E v [(v, .inl (E 102 2, N, .inl (zA f)))] H ∧ PR E u [(u, .inl (E 102 2, M, .inl (zA g)))] H) (fun rv H => rv = none ∧ PR E v [(v, .inl (E 102 2, N, .inl (zA (cpD f g n (M : Int)))))] H) := by
  refine Mu.start (own := RJ0) rfl (by decide +kernel) (Nat.le_of_ble_eq_true rfl) ?_
  intro p e s m below meth cd args Q hQ X hr hlk hnm hM hPr
  obtain ⟨h_so, h_sa, h_sg⟩ := hPr
  refine v_aload_n X dJ0_getBytes_840e7_0 1 rfl 0 rfl ?_
  refine v_rdV X hM.C h_so.1 (c_J0_coderO l E o u) kvJ0_coder_7d493 kiJ0_coder_7d493 kl_J0_335 rfl rfl (As := []) rfl rfl rfl dJ0_getBytes_840e7_1 4 rfl ?_
  show V p l e (rmL 1 0 0) s m args below meth cd Q 4 s.heap [] 0 0 4 [(0, .ref o), (1, .ref v), (2, .int (zI n)), (3, .int (zI 0))] [.int (zI 0)]
  refine v_iload_n X dJ0_getBytes_840e7_4 5 rfl 3 rfl ?_
  refine v_icmp_ne X (by omega) (by omega) dJ0_getBytes_840e7_5 8 28 rfl (by decide) (fun c_1 => ?_) (fun c_1 => ?_)
  · skip
    exfalso; omega
  · skip
    refine v_aload_n X dJ0_getBytes_840e7_8 9 rfl 0 rfl ?_
    refine v_getf X hM.C h_so.1 inJ0 0 rfl rfl 0 (by decide) kf_J0_9 (fun _ h => h) rfl dJ0_getBytes_840e7_9 12 rfl ?_
    refine v_iconst X dJ0_getBytes_840e7_12 13 rfl ?_
    refine v_aload_n X dJ0_getBytes_840e7_13 14 rfl 1 rfl ?_
    refine v_iload_n X dJ0_getBytes_840e7_14 15 rfl 2 rfl ?_
    refine v_iload_n X dJ0_getBytes_840e7_15 16 rfl 3 rfl ?_
    refine v_ishl0 X dJ0_getBytes_840e7_16 17 rfl ?_
    refine v_aload_n X dJ0_getBytes_840e7_17 18 rfl 0 rfl ?_
    refine v_getf X hM.C h_so.1 inJ0 0 rfl rfl 0 (by decide) kf_J0_9 (fun _ h => h) rfl dJ0_getBytes_840e7_18 21 rfl ?_
    refine v_alen X hM.C h_sg.1 0 2 rfl rfl dJ0_getBytes_840e7_21 22 rfl ?_
    refine v_copyD X hM h_sg.1 h_sa (t0 := 2) (q0 := 0) (q1 := 0) (ty := .byte) rfl rfl rfl rfl (by omega) (by omega) (by omega) (by omega) (by omega) (by omega) (fun i _ _ => lat_fb (hg i)) (Or.inl (fsH (by omega) (by omega))) kl_J0_212 rfl dJ0_getBytes_840e7_22 25 rfl (ws' := [(v, .inl (E 102 2, N, .inl (zA (cpD f g n (M : Int)))))]) rfl (fun H2 lo2 hzz hM hF h_sa => ?_)
    clear hzz
    replace h_so := h_so.kept hF 1 rfl (fsd (by omega))
    replace h_sg := h_sg.kept hF 1 rfl (fsd (by omega))
    refine v_goto X dJ0_getBytes_840e7_25 43 (by decide) ?_
    subst hQ; exact m_vret X hr hlk hM dJ0_getBytes_840e7_43 rfl ⟨rfl, h_sa⟩
set_option maxHeartbeats 4000000 in
set_option maxRecDepth 20000 in
theorem c_J5_inflK (l : Launch) (E : Nat → Nat → Nat) (b : Nat) (v : Nat) (ml : Int) (n : Int) (q : Nat) (hq : q < 13) : Rd l yJ5_inflateIfNeededFor_a7421 cJ5_inflateIfNeededFor_a7421 2 none 1 E [.ref b, .ref (E 105 (35 + q))] ([(b, .inr (1, [.ref v, .int (zI 0), .int (zI ml), .int (zI n)]))]) none := by
  refine Rd.start (own := RJ5) rfl (by decide +kernel) (Nat.le_of_ble_eq_true rfl) ?_
  intro p e s m below meth cd args Q hQ X hr hlk hC hP
  have h_sb := hP
  refine v_comp X hC kf_J5_18 dJ5_inflateIfNeededFor_a7421_0 3 rfl ?_
  refine v_if_eq X (by omega) dJ5_inflateIfNeededFor_a7421_3 6 21 rfl (by decide) (fun c_1 => ?_) (fun c_1 => ?_)
  · skip
    exfalso; omega
  · skip
    refine v_aload_n X dJ5_inflateIfNeededFor_a7421_6 7 rfl 0 rfl ?_
    refine v_getf X hC h_sb inJ4 0 rfl rfl 1 (by decide) kf_J5_22 (fun _ h => h) rfl dJ5_inflateIfNeededFor_a7421_7 10 rfl ?_
    show V p l e (rmL 1 0 0) s m args below meth cd Q 2 s.heap [] 0 0 10 [(0, .ref b), (1, .ref (E 105 (35 + q)))] [.int (zI 0)]
    refine v_aload_n X dJ5_inflateIfNeededFor_a7421_10 11 rfl 1 rfl ?_
    refine v_rdK X hC hq (c_J0_coderK l E q hq) kvJ0_coder_7d493 kiJ0_coder_7d493 rfl kl_J5_40 (As := []) rfl rfl rfl dJ5_inflateIfNeededFor_a7421_11 14 rfl ?_
    show V p l e (rmL 1 0 0) s m args below meth cd Q 2 s.heap [] 0 0 14 [(0, .ref b), (1, .ref (E 105 (35 + q)))] [.int (zI 0), .int (zI 0)]
    refine v_icmp_eq X (by omega) (by omega) dJ5_inflateIfNeededFor_a7421_14 17 21 rfl (by decide) (fun c_2 => ?_) (fun c_2 => ?_)
    · skip
      subst hQ; exact v_vret0 X hr hlk dJ5_inflateIfNeededFor_a7421_21
    · skip
      exfalso; omega
set_option maxHeartbeats 4000000 in
set_option maxRecDepth 20000 in
theorem c_J5_inflO (l : Launch) (E : Nat → Nat → Nat) (b : Nat) (v : Nat) (ml : Int) (n : Int) (o : Nat) (u : Nat) : Rd l yJ5_inflateIfNeededFor_a7421 cJ5_inflateIfNeededFor_a7421 2 none 1 E [.ref b, .ref o] ([(b, .inr (1, [.ref v, .int (zI 0), .int (zI ml), .int (zI n)]))] ++ [(o, .inr (0, [.ref u, .int (zI 0), .int (zI 0), .int (zI 0)]))]) none := by
  refine Rd.start (own := RJ5) rfl (by decide +kernel) (Nat.le_of_ble_eq_true rfl) ?_
  intro p e s m below meth cd args Q hQ X hr hlk hC hP
  have h_so := PW.right hP
  have h_sb := (PW.left hP)
  refine v_comp X hC kf_J5_18 dJ5_inflateIfNeededFor_a7421_0 3 rfl ?_
  refine v_if_eq X (by omega) dJ5_inflateIfNeededFor_a7421_3 6 21 rfl (by decide) (fun c_1 => ?_) (fun c_1 => ?_)
  · skip
    exfalso; omega
  · skip
    refine v_aload_n X dJ5_inflateIfNeededFor_a7421_6 7 rfl 0 rfl ?_
    refine v_getf X hC h_sb inJ4 0 rfl rfl 1 (by decide) kf_J5_22 (fun _ h => h) rfl dJ5_inflateIfNeededFor_a7421_7 10 rfl ?_
    show V p l e (rmL 1 0 0) s m args below meth cd Q 2 s.heap [] 0 0 10 [(0, .ref b), (1, .ref o)] [.int (zI 0)]
    refine v_aload_n X dJ5_inflateIfNeededFor_a7421_10 11 rfl 1 rfl ?_
    refine v_rdV X hC h_so (c_J0_coderO l E o u) kvJ0_coder_7d493 kiJ0_coder_7d493 kl_J5_40 rfl rfl (As := []) rfl rfl rfl dJ5_inflateIfNeededFor_a7421_11 14 rfl ?_
    show V p l e (rmL 1 0 0) s m args below meth cd Q 2 s.heap [] 0 0 14 [(0, .ref b), (1, .ref o)] [.int (zI 0), .int (zI 0)]
    refine v_icmp_eq X (by omega) (by omega) dJ5_inflateIfNeededFor_a7421_14 17 21 rfl (by decide) (fun c_2 => ?_) (fun c_2 => ?_)
    · skip
      subst hQ; exact v_vret0 X hr hlk dJ5_inflateIfNeededFor_a7421_21
    · skip
      exfalso; omega
set_option maxHeartbeats 4000000 in
set_option maxRecDepth 20000 in
theorem c_J5_putK (l : Launch) (E : Nat → Nat → Nat) (b : Nat) (v : Nat) (N : Nat) (f : Int → Int) (ml : Int) (n : Int) (r : Int) (q : Nat) (hq : q < 13) (n0 : 0 ≤ r) (n1 : r + kwLen q ≤ (N : Int)) (N1 : N < 1000) (hd_sb_sa : b + 1 ≤ v ∨ v + 1 ≤ b) : Mu l yJ5_putStringAt_47b60 cJ5_putStringAt_47b60 3 none 2 0 0 E [(v, 1)] [.ref b, .int (zI r), .ref (E 105 (35 + q))] (fun H => PR E b [(b, .inr (1, [.ref v, .int (zI 0), .int (zI ml), .int (zI n)]))] H ∧ PR E v [(v, .inl (E 102 2, N, .inl (zA f)))] H) (fun rv H => rv = none ∧ PR E v [(v, .inl (E 102 2, N, .inl (zA (cpD f (kwZ q) r (kwLen q)))))] H) := by
  refine Mu.start (own := RJ5) rfl (by decide +kernel) (Nat.le_of_ble_eq_true rfl) ?_
  intro p e s m below meth cd args Q hQ X hr hlk hnm hM hPr
  obtain ⟨h_sb, h_sa⟩ := hPr
  have hkl := kwLen_b hq
  refine v_aload_n X dJ5_putStringAt_47b60_0 1 rfl 0 rfl ?_
  refine v_aload_n X dJ5_putStringAt_47b60_1 2 rfl 2 rfl ?_
  refine v_rdU (C := RJ4) (hsel := va_Nw.use rfl (hM.C.2.2.2.1.2.2.2 _ (by simp))) X hM.C h_sb.1 (c_J5_inflK l E b v ml n q hq) kvJ5_inflateIfNeededFor_a7421 kim_J5_inflateIfNeededFor_a7421 ksm_J5_inflateIfNeededFor_a7421 kl_J5_397 rfl rfl (As := [.ref (E 105 (35 + q))]) rfl rfl rfl dJ5_putStringAt_47b60_2 5 rfl ?_
  show V p l e (rmL 2 0 0) s m args below meth cd Q 3 s.heap [] 0 0 5 [(0, .ref b), (1, .int (zI r)), (2, .ref (E 105 (35 + q)))] []
  refine v_aload_n X dJ5_putStringAt_47b60_5 6 rfl 2 rfl ?_
  refine v_aload_n X dJ5_putStringAt_47b60_6 7 rfl 0 rfl ?_
  refine v_getf X hM.C h_sb.1 inJ4 0 rfl rfl 0 (by decide) kf_J5_15 (fun _ h => h) rfl dJ5_putStringAt_47b60_7 10 rfl ?_
  refine v_iload_n X dJ5_putStringAt_47b60_10 11 rfl 1 rfl ?_
  refine v_aload_n X dJ5_putStringAt_47b60_11 12 rfl 0 rfl ?_
  refine v_getf X hM.C h_sb.1 inJ4 0 rfl rfl 1 (by decide) kf_J5_22 (fun _ h => h) rfl dJ5_putStringAt_47b60_12 15 rfl ?_
  show V p l e (rmL 2 0 0) s m args below meth cd Q 3 s.heap [] 0 0 15 [(0, .ref b), (1, .int (zI r)), (2, .ref (E 105 (35 + q)))] [.int (zI 0), .int (zI r), .ref v, .ref (E 105 (35 + q))]
  refine v_muK X hM hq (c_J0_getBytesK l E q v N f r hq n0 n1 N1) kvJ0_getBytes_840e7 kiJ0_getBytes_840e7 rfl kl_J5_399 (As := [.ref v, .int (zI r), .int (zI 0)]) rfl rfl rfl dJ5_putStringAt_47b60_15 18 rfl (k' := 0) (n' := 0) rfl rfl (fsI (fun q q1 q2 => (Or.inl (fsH (by omega) (by omega))))) h_sa (fun rv H1 lo1 hM hF hpo => ?_)
  obtain ⟨rfl, hw_0⟩ := hpo
  have h_sa : PR E v [(v, .inl (E 102 2, N, .inl (zA (cpD f (kwZ q) r (kwLen q)))))] H1 := hw_0
  replace h_sb := h_sb.kept hF 1 rfl (fsd (by omega))
  show V p l e (rmL 2 0 0) s m args below meth cd Q 3 H1 lo1 0 0 18 [(0, .ref b), (1, .int (zI r)), (2, .ref (E 105 (35 + q)))] []
  subst hQ; exact m_vret X hr hlk hM dJ5_putStringAt_47b60_18 rfl ⟨rfl, h_sa⟩
set_option maxHeartbeats 4000000 in
set_option maxRecDepth 20000 in
theorem c_J5_putO (l : Launch) (E : Nat → Nat → Nat) (b : Nat) (v : Nat) (N : Nat) (f : Int → Int) (ml : Int) (n : Int) (r : Int) (o : Nat) (u : Nat) (M : Nat) (g : Int → Int) (n0 : 0 ≤ r) (n1 : r + (M : Int) ≤ (N : Int)) (N1 : N < 1000) (hg : ∀ j : Int, 0 ≤ g j ∧ g j < 128) (hd_sb_sa : b + 1 ≤ v ∨ v + 1 ≤ b) (hd_sa_so : v + 1 ≤ o ∨ o + 1 ≤ v) (hd_sa_sg : v + 1 ≤ u ∨ u + 1 ≤ v) : Mu l yJ5_putStringAt_47b60 cJ5_putStringAt_47b60 3 none 2 0 0 E [(v, 1)] [.ref b, .int (zI r), .ref o] (fun H => PR E b [(b, .inr (1, [.ref v, .int (zI 0), .int (zI ml), .int (zI n)]))] H ∧ PR E v [(v, .inl (E 102 2, N, .inl (zA f)))] H ∧ PR E o [(o, .inr (0, [.ref u, .int (zI 0), .int (zI 0), .int (zI 0)]))] H ∧ PR E u [(u, .inl (E 102 2, M, .inl (zA g)))] H) (fun rv H => rv = none ∧ PR E v [(v, .inl (E 102 2, N, .inl (zA (cpD f g r (M : Int)))))] H) := by
  refine Mu.start (own := RJ5) rfl (by decide +kernel) (Nat.le_of_ble_eq_true rfl) ?_
  intro p e s m below meth cd args Q hQ X hr hlk hnm hM hPr
  obtain ⟨h_sb, h_sa, h_so, h_sg⟩ := hPr
  refine v_aload_n X dJ5_putStringAt_47b60_0 1 rfl 0 rfl ?_
  refine v_aload_n X dJ5_putStringAt_47b60_1 2 rfl 2 rfl ?_
  refine v_rdU (C := RJ4) (hsel := va_Nw.use rfl (hM.C.2.2.2.1.2.2.2 _ (by simp))) X hM.C (PW.app h_sb.1 h_so.1) (c_J5_inflO l E b v ml n o u) kvJ5_inflateIfNeededFor_a7421 kim_J5_inflateIfNeededFor_a7421 ksm_J5_inflateIfNeededFor_a7421 kl_J5_397 rfl rfl (As := [.ref o]) rfl rfl rfl dJ5_putStringAt_47b60_2 5 rfl ?_
  show V p l e (rmL 2 0 0) s m args below meth cd Q 3 s.heap [] 0 0 5 [(0, .ref b), (1, .int (zI r)), (2, .ref o)] []
  refine v_aload_n X dJ5_putStringAt_47b60_5 6 rfl 2 rfl ?_
  refine v_aload_n X dJ5_putStringAt_47b60_6 7 rfl 0 rfl ?_
  refine v_getf X hM.C h_sb.1 inJ4 0 rfl rfl 0 (by decide) kf_J5_15 (fun _ h => h) rfl dJ5_putStringAt_47b60_7 10 rfl ?_
  refine v_iload_n X dJ5_putStringAt_47b60_10 11 rfl 1 rfl ?_
  refine v_aload_n X dJ5_putStringAt_47b60_11 12 rfl 0 rfl ?_
  refine v_getf X hM.C h_sb.1 inJ4 0 rfl rfl 1 (by decide) kf_J5_22 (fun _ h => h) rfl dJ5_putStringAt_47b60_12 15 rfl ?_
  show V p l e (rmL 2 0 0) s m args below meth cd Q 3 s.heap [] 0 0 15 [(0, .ref b), (1, .int (zI r)), (2, .ref o)] [.int (zI 0), .int (zI r), .ref v, .ref o]
  refine v_muV X hM (h_so.1) (c_J0_getBytesO l E o u M g v N f r n0 n1 N1 hg (by omega) hd_sa_sg) kvJ0_getBytes_840e7 kiJ0_getBytes_840e7 kl_J5_399 (q0 := 0) rfl rfl (As := [.ref v, .int (zI r), .int (zI 0)]) rfl rfl rfl dJ5_putStringAt_47b60_15 18 rfl (k' := 0) (n' := 0) rfl rfl (fsI (fun q q1 q2 => (Or.inl (fsH (by omega) (by omega))))) ⟨h_so, h_sa, h_sg⟩ (fun rv H1 lo1 hM hF hpo => ?_)
  obtain ⟨rfl, hw_0⟩ := hpo
  have h_sa : PR E v [(v, .inl (E 102 2, N, .inl (zA (cpD f g r (M : Int)))))] H1 := hw_0
  replace h_sb := h_sb.kept hF 1 rfl (fsd (by omega))
  replace h_so := h_so.kept hF 1 rfl (fsd (by omega))
  replace h_sg := h_sg.kept hF 1 rfl (fsd (by omega))
  show V p l e (rmL 2 0 0) s m args below meth cd Q 3 H1 lo1 0 0 18 [(0, .ref b), (1, .int (zI r)), (2, .ref o)] []
  subst hQ; exact m_vret X hr hlk hM dJ5_putStringAt_47b60_18 rfl ⟨rfl, h_sa⟩
set_option maxHeartbeats 4000000 in
set_option maxRecDepth 20000 in
theorem c_J5_ensure2 (l : Launch) (E : Nat → Nat → Nat) (b : Nat) (v : Nat) (N : Nat) (f : Int → Int) (ml : Int) (n : Int) (z : Nat) (q : Int) (hN : N = 16 ∨ N = 34 ∨ N = 70) (q0 : 0 ≤ q) (q1 : q ≤ 70) (q2 : q ≤ 2 * (N : Int) + 2) (hf : ∀ j : Int, 0 ≤ f j ∧ f j < 128) (hbz : b < z) (hd_sb_sa : b + 1 ≤ v ∨ v + 1 ≤ b) : Mu l yJ5_ensureCapacityInternal_d00df cJ5_ensureCapacityInternal_d00df 3 none 3 1 70 E [(b, 1)] [.ref b, .int (zI q)] (fun H => PR E b [(b, .inr (1, [.ref v, .int (zI 0), .int (zI ml), .int (zI n)]))] H ∧ PR E v [(v, .inl (E 102 2, N, .inl (zA f)))] H ∧ z ≤ H.size) (fun rv H => ∃ v1 : Nat, ∃ N1 : Nat, ∃ f1 : Int → Int, rv = none ∧ (v1 = v ∨ z ≤ v1) ∧ (N1 = 16 ∨ N1 = 34 ∨ N1 = 70) ∧ q ≤ (N1 : Int) ∧ (∀ j : Int, 0 ≤ j ∧ j < (N : Int) → f1 j = f j) ∧ (∀ j : Int, 0 ≤ f1 j ∧ f1 j < 128) ∧ PR E b [(b, .inr (1, [.ref v1, .int (zI 0), .int (zI ml), .int (zI n)]))] H ∧ PR E v1 [(v1, .inl (E 102 2, N1, .inl (zA f1)))] H) := by
  refine Mu.start (own := RJ5) rfl (by decide +kernel) (Nat.le_of_ble_eq_true rfl) ?_
  intro p e s m below meth cd args Q hQ X hr hlk hnm hM hPr
  obtain ⟨h_sb, h_sa, hzl⟩ := hPr
  have hz : s.heap.size = s.heap.size := rfl
  have hzl0 := hzl
  refine v_aload_n X dJ5_ensureCapacityInternal_d00df_0 1 rfl 0 rfl ?_
  refine v_getf X hM.C h_sb.1 inJ4 0 rfl rfl 0 (by decide) kf_J5_15 (fun _ h => h) rfl dJ5_ensureCapacityInternal_d00df_1 4 rfl ?_
  refine v_alen X hM.C h_sa.1 0 2 rfl rfl dJ5_ensureCapacityInternal_d00df_4 5 rfl ?_
  refine v_aload_n X dJ5_ensureCapacityInternal_d00df_5 6 rfl 0 rfl ?_
  refine v_getf X hM.C h_sb.1 inJ4 0 rfl rfl 1 (by decide) kf_J5_22 (fun _ h => h) rfl dJ5_ensureCapacityInternal_d00df_6 9 rfl ?_
  show V p l e (rmL 3 1 70) s m args below meth cd Q 3 s.heap [] 0 0 9 [(0, .ref b), (1, .int (zI q))] [.int (zI 0), .int (zI (N : Int))]
  refine v_ishr0 X dJ5_ensureCapacityInternal_d00df_9 10 rfl ?_
  refine v_istore_n X dJ5_ensureCapacityInternal_d00df_10 11 rfl rfl (by decide) (L' := [(2, .int (zI (N : Int))), (0, .ref b), (1, .int (zI q))]) rfl ?_
  refine v_iload_n X dJ5_ensureCapacityInternal_d00df_11 12 rfl 2 rfl ?_
  refine v_iload_n X dJ5_ensureCapacityInternal_d00df_12 13 rfl 0 rfl ?_
  refine v_isub X dJ5_ensureCapacityInternal_d00df_13 14 rfl ?_
  refine v_if_le X (by omega) dJ5_ensureCapacityInternal_d00df_14 17 38 rfl (by decide) (fun c_1 => ?_) (fun c_1 => ?_)
  · skip
    subst hQ; exact m_vret X hr hlk hM dJ5_ensureCapacityInternal_d00df_38 rfl ⟨v, N, f, rfl, (by omega), (by omega), (by omega), (by intro j _; rfl), (by exact hf), h_sb, h_sa⟩
  · skip
    rcases hN with hN | hN | hN
    · skip
      subst hN
      refine v_aload_n X dJ5_ensureCapacityInternal_d00df_17 18 rfl 1 rfl ?_
      refine v_aload_n X dJ5_ensureCapacityInternal_d00df_18 19 rfl 1 rfl ?_
      refine v_getf X hM.C h_sb.1 inJ4 0 rfl rfl 0 (by decide) kf_J5_15 (fun _ h => h) rfl dJ5_ensureCapacityInternal_d00df_19 22 rfl ?_
      refine v_aload_n X dJ5_ensureCapacityInternal_d00df_22 23 rfl 1 rfl ?_
      refine v_iload_n X dJ5_ensureCapacityInternal_d00df_23 24 rfl 2 rfl ?_
      refine v_rdU (C := RJ4) (hsel := va_Nw.use rfl (hM.C.2.2.2.1.2.2.2 _ (by simp))) X hM.C (PW.app h_sb.1 h_sa.1) (c_J5_newCapacity_0f7a4 l E b v 16 f ml n q q0 (by omega) (by omega)) kvJ5_newCapacity_0f7a4 kim_J5_newCapacity_0f7a4 ksm_J5_newCapacity_0f7a4 kl_J5_104 rfl rfl (As := [.int (zI q)]) rfl rfl rfl dJ5_ensureCapacityInternal_d00df_24 27 rfl ?_
      show V p l e (rmL 3 1 70) s m args below meth cd Q 3 s.heap [] 0 0 27 [(2, .int (zI (16 : Int))), (0, .ref b), (1, .int (zI q))] [.int (zI ((16 : Int) + max (q - (16 : Int)) ((16 : Int) + 2))), .ref v, .ref b]
      refine V_S (st' := [.int (zI 34), .ref v, .ref b]) (by rw [show (16 : Int) + max (q - 16) (16 + 2) = 34 by omega]) ?_
      refine v_aload_n X dJ5_ensureCapacityInternal_d00df_27 28 rfl 1 rfl ?_
      refine v_getf X hM.C h_sb.1 inJ4 0 rfl rfl 1 (by decide) kf_J5_22 (fun _ h => h) rfl dJ5_ensureCapacityInternal_d00df_28 31 rfl ?_
      show V p l e (rmL 3 1 70) s m args below meth cd Q 3 s.heap [] 0 0 31 [(2, .int (zI (16 : Int))), (0, .ref b), (1, .int (zI q))] [.int (zI 0), .int (zI 34), .ref v, .ref b]
      refine v_ishl0 X dJ5_ensureCapacityInternal_d00df_31 32 rfl ?_
      refine v_muS X hM (c_J7_copyOf_34 l E v f z hf) kvJ7_copyOf_9075b ksJ7_copyOf_9075b kl_J5_108 (As := [.ref v, .int (zI 34)]) rfl rfl rfl dJ5_ensureCapacityInternal_d00df_32 35 rfl (k' := 1) (n' := 34) rfl rfl (fun q hq => hq.elim) ⟨h_sa, (by omega)⟩ (fun rv H2 lo2 hM hF hpo => ?_)
      obtain ⟨v1_3, f1_4, rfl, hp_f_5, hp_f_6, hp_f_7, hw_0⟩ := hpo
      have h_sa : PR E v1_3 [(v1_3, .inl (E 102 2, 34, .inl (zA f1_4)))] H2 := hw_0
      replace hzl := Nat.le_trans hzl hF.1
      replace h_sb := h_sb.kept hF 1 rfl (fun q _ _ h => h.elim)
      show V p l e (rmL 3 1 70) s m args below meth cd Q 3 H2 lo2 1 34 35 [(2, .int (zI (16 : Int))), (0, .ref b), (1, .int (zI q))] [.ref v1_3, .ref b]
      refine v_putf X hM h_sb ftJ4 0 rfl rfl 0 (by decide) kf_J5_15 (fun _ h => h) rfl rfl rfl (Nat.le_of_ble_eq_true rfl) (Or.inl (fsH (by omega) (by omega))) dJ5_ensureCapacityInternal_d00df_35 38 rfl (ws' := [(b, .inr (1, [.ref v1_3, .int (zI 0), .int (zI ml), .int (zI n)]))]) rfl (fun H8 lo8 hzz hM hF h_sb => ?_)
      clear hzz
      replace hzl := Nat.le_trans hzl hF.1
      replace h_sa := h_sa.kept hF 1 rfl (fsd (by omega))
      subst hQ; exact m_vret X hr hlk hM dJ5_ensureCapacityInternal_d00df_38 rfl ⟨v1_3, 34, f1_4, rfl, (by omega), (by omega), (by omega), (by exact hp_f_6), (by exact hp_f_7), h_sb, h_sa⟩
    · skip
      subst hN
      refine v_aload_n X dJ5_ensureCapacityInternal_d00df_17 18 rfl 1 rfl ?_
      refine v_aload_n X dJ5_ensureCapacityInternal_d00df_18 19 rfl 1 rfl ?_
      refine v_getf X hM.C h_sb.1 inJ4 0 rfl rfl 0 (by decide) kf_J5_15 (fun _ h => h) rfl dJ5_ensureCapacityInternal_d00df_19 22 rfl ?_
      refine v_aload_n X dJ5_ensureCapacityInternal_d00df_22 23 rfl 1 rfl ?_
      refine v_iload_n X dJ5_ensureCapacityInternal_d00df_23 24 rfl 2 rfl ?_
      refine v_rdU (C := RJ4) (hsel := va_Nw.use rfl (hM.C.2.2.2.1.2.2.2 _ (by simp))) X hM.C (PW.app h_sb.1 h_sa.1) (c_J5_newCapacity_0f7a4 l E b v 34 f ml n q q0 (by omega) (by omega)) kvJ5_newCapacity_0f7a4 kim_J5_newCapacity_0f7a4 ksm_J5_newCapacity_0f7a4 kl_J5_104 rfl rfl (As := [.int (zI q)]) rfl rfl rfl dJ5_ensureCapacityInternal_d00df_24 27 rfl ?_
      show V p l e (rmL 3 1 70) s m args below meth cd Q 3 s.heap [] 0 0 27 [(2, .int (zI (34 : Int))), (0, .ref b), (1, .int (zI q))] [.int (zI ((34 : Int) + max (q - (34 : Int)) ((34 : Int) + 2))), .ref v, .ref b]
      refine V_S (st' := [.int (zI 70), .ref v, .ref b]) (by rw [show (34 : Int) + max (q - 34) (34 + 2) = 70 by omega]) ?_
      refine v_aload_n X dJ5_ensureCapacityInternal_d00df_27 28 rfl 1 rfl ?_
      refine v_getf X hM.C h_sb.1 inJ4 0 rfl rfl 1 (by decide) kf_J5_22 (fun _ h => h) rfl dJ5_ensureCapacityInternal_d00df_28 31 rfl ?_
      show V p l e (rmL 3 1 70) s m args below meth cd Q 3 s.heap [] 0 0 31 [(2, .int (zI (34 : Int))), (0, .ref b), (1, .int (zI q))] [.int (zI 0), .int (zI 70), .ref v, .ref b]
      refine v_ishl0 X dJ5_ensureCapacityInternal_d00df_31 32 rfl ?_
      refine v_muS X hM (c_J7_copyOf_70 l E v f z hf) kvJ7_copyOf_9075b ksJ7_copyOf_9075b kl_J5_108 (As := [.ref v, .int (zI 70)]) rfl rfl rfl dJ5_ensureCapacityInternal_d00df_32 35 rfl (k' := 1) (n' := 70) rfl rfl (fun q hq => hq.elim) ⟨h_sa, (by omega)⟩ (fun rv H9 lo9 hM hF hpo => ?_)
      obtain ⟨v1_10, f1_11, rfl, hp_f_12, hp_f_13, hp_f_14, hw_0⟩ := hpo
      have h_sa : PR E v1_10 [(v1_10, .inl (E 102 2, 70, .inl (zA f1_11)))] H9 := hw_0
      replace hzl := Nat.le_trans hzl hF.1
      replace h_sb := h_sb.kept hF 1 rfl (fun q _ _ h => h.elim)
      show V p l e (rmL 3 1 70) s m args below meth cd Q 3 H9 lo9 1 70 35 [(2, .int (zI (34 : Int))), (0, .ref b), (1, .int (zI q))] [.ref v1_10, .ref b]
      refine v_putf X hM h_sb ftJ4 0 rfl rfl 0 (by decide) kf_J5_15 (fun _ h => h) rfl rfl rfl (Nat.le_of_ble_eq_true rfl) (Or.inl (fsH (by omega) (by omega))) dJ5_ensureCapacityInternal_d00df_35 38 rfl (ws' := [(b, .inr (1, [.ref v1_10, .int (zI 0), .int (zI ml), .int (zI n)]))]) rfl (fun H15 lo15 hzz hM hF h_sb => ?_)
      clear hzz
      replace hzl := Nat.le_trans hzl hF.1
      replace h_sa := h_sa.kept hF 1 rfl (fsd (by omega))
      subst hQ; exact m_vret X hr hlk hM dJ5_ensureCapacityInternal_d00df_38 rfl ⟨v1_10, 70, f1_11, rfl, (by omega), (by omega), (by omega), (by exact hp_f_13), (by exact hp_f_14), h_sb, h_sa⟩
    · skip
      exfalso; omega
set_option maxHeartbeats 4000000 in
set_option maxRecDepth 20000 in
theorem c_J5_appendSK (l : Launch) (E : Nat → Nat → Nat) (b : Nat) (v : Nat) (N : Nat) (f : Int → Int) (ml : Int) (n : Int) (z : Nat) (q : Nat) (hq : q < 13) (n0 : 0 ≤ n) (n1 : n ≤ (N : Int)) (n2 : n + kwLen q ≤ 70) (n3 : n + kwLen q ≤ 2 * (N : Int) + 2) (hN : N = 16 ∨ N = 34 ∨ N = 70) (hf : ∀ j : Int, 0 ≤ f j ∧ f j < 128) (hbz : b < z) (hd_sb_sa : b + 1 ≤ v ∨ v + 1 ≤ b) : Mu l yJ5_append_cf1ce cJ5_append_cf1ce 3 (some (.object "java/lang/AbstractStringBuilder")) 4 1 70 E [(b, 1), (v, 1)] [.ref b, .ref (E 105 (35 + q))] (fun H => PR E b [(b, .inr (1, [.ref v, .int (zI 0), .int (zI ml), .int (zI n)]))] H ∧ PR E v [(v, .inl (E 102 2, N, .inl (zA f)))] H ∧ z ≤ H.size) (fun rv H => ∃ v1 : Nat, ∃ N1 : Nat, ∃ f1 : Int → Int, rv = some (.ref b) ∧ (v1 = v ∨ z ≤ v1) ∧ (N1 = 16 ∨ N1 = 34 ∨ N1 = 70) ∧ n + kwLen q ≤ (N1 : Int) ∧ (∀ j : Int, 0 ≤ j ∧ j < n → f1 j = f j) ∧ (∀ j : Int, 0 ≤ j ∧ j < kwLen q → f1 (n + j) = kwZ q j) ∧ (∀ j : Int, 0 ≤ f1 j ∧ f1 j < 128) ∧ PR E b [(b, .inr (1, [.ref v1, .int (zI 0), .int (zI ml), .int (zI (n + kwLen q))]))] H ∧ PR E v1 [(v1, .inl (E 102 2, N1, .inl (zA f1)))] H) := by
  refine Mu.start (own := RJ5) rfl (by decide +kernel) (Nat.le_of_ble_eq_true rfl) ?_
  intro p e s m below meth cd args Q hQ X hr hlk hnm hM hPr
  obtain ⟨h_sb, h_sa, hzl⟩ := hPr
  have hz : s.heap.size = s.heap.size := rfl
  have hzl0 := hzl
  have hbs : b < s.heap.size := (h_sb.1 0 _ rfl).lt
  have hkl := kwLen_b hq
  refine v_aload_n X dJ5_append_cf1ce_0 1 rfl 1 rfl ?_
  refine v_ifnonnull X dJ5_append_cf1ce_1 9 (by decide) ?_
  refine v_aload_n X dJ5_append_cf1ce_9 10 rfl 1 rfl ?_
  refine v_rdK X hM.C hq (c_J0_lengthK l E q hq) kvJ0_length_8abf5 kiJ0_length_8abf5 rfl kl_J5_32 (As := []) rfl rfl rfl dJ5_append_cf1ce_10 13 rfl ?_
  show V p l e (rmL 4 1 70) s m args below meth cd Q 3 s.heap [] 0 0 13 [(0, .ref b), (1, .ref (E 105 (35 + q)))] [.int (zI (kwLen q))]
  refine v_istore_n X dJ5_append_cf1ce_13 14 rfl rfl (by decide) (L' := [(2, .int (zI (kwLen q))), (0, .ref b), (1, .ref (E 105 (35 + q)))]) rfl ?_
  refine v_aload_n X dJ5_append_cf1ce_14 15 rfl 1 rfl ?_
  refine v_aload_n X dJ5_append_cf1ce_15 16 rfl 1 rfl ?_
  refine v_getf X hM.C h_sb.1 inJ4 0 rfl rfl 3 (by decide) kf_J5_79 (fun _ h => h) rfl dJ5_append_cf1ce_16 19 rfl ?_
  show V p l e (rmL 4 1 70) s m args below meth cd Q 3 s.heap [] 0 0 19 [(2, .int (zI (kwLen q))), (0, .ref b), (1, .ref (E 105 (35 + q)))] [.int (zI n), .ref b]
  refine v_iload_n X dJ5_append_cf1ce_19 20 rfl 0 rfl ?_
  refine v_iadd X dJ5_append_cf1ce_20 21 rfl ?_
  refine v_muU (C := RJ4) (hsel := va_Nw.use rfl (hM.C.2.2.2.1.2.2.2 _ (by simp))) X hM (h_sb.1) (c_J5_ensure2 l E b v N f ml n s.heap.size (n + kwLen q) hN (by omega) (by omega) (by omega) hf (by omega) hd_sb_sa) kvJ5_ensureCapacityInternal_d00df kim_J5_ensureCapacityInternal_d00df ksm_J5_ensureCapacityInternal_d00df kl_J5_100 (q0 := 0) rfl rfl (As := [.int (zI (n + kwLen q))]) rfl rfl rfl dJ5_append_cf1ce_21 24 rfl (k' := 1) (n' := 70) rfl rfl (fsI (fun q q1 q2 => (Or.inl (fsH (by omega) (by omega))))) ⟨h_sb, h_sa, (by omega)⟩ (fun rv H1 lo1 hM hF hpo => ?_)
  obtain ⟨v1_2, N1_3, f1_4, rfl, hp_f_5, hp_f_6, hp_f_7, hp_f_8, hp_f_9, hw_0, hw_1⟩ := hpo
  have h_sb : PR E b [(b, .inr (1, [.ref v1_2, .int (zI 0), .int (zI ml), .int (zI n)]))] H1 := hw_0
  have h_sa : PR E v1_2 [(v1_2, .inl (E 102 2, N1_3, .inl (zA f1_4)))] H1 := hw_1
  replace hzl := Nat.le_trans hzl hF.1
  show V p l e (rmL 4 1 70) s m args below meth cd Q 3 H1 lo1 1 70 24 [(2, .int (zI (kwLen q))), (0, .ref b), (1, .ref (E 105 (35 + q)))] []
  have hd9 : b + 1 ≤ v1_2 ∨ v1_2 + 1 ≤ b := by omega
  refine v_aload_n X dJ5_append_cf1ce_24 25 rfl 1 rfl ?_
  refine v_aload_n X dJ5_append_cf1ce_25 26 rfl 1 rfl ?_
  refine v_getf X hM.C h_sb.1 inJ4 0 rfl rfl 3 (by decide) kf_J5_79 (fun _ h => h) rfl dJ5_append_cf1ce_26 29 rfl ?_
  show V p l e (rmL 4 1 70) s m args below meth cd Q 3 H1 lo1 1 70 29 [(2, .int (zI (kwLen q))), (0, .ref b), (1, .ref (E 105 (35 + q)))] [.int (zI n), .ref b]
  refine v_aload_n X dJ5_append_cf1ce_29 30 rfl 2 rfl ?_
  refine v_muU (C := RJ4) (hsel := va_Nw.use rfl (hM.C.2.2.2.1.2.2.2 _ (by simp))) X hM (h_sb.1) (c_J5_putK l E b v1_2 N1_3 f1_4 ml n n q hq n0 (by omega) (by omega) (by omega)) kvJ5_putStringAt_47b60 kim_J5_putStringAt_47b60 ksm_J5_putStringAt_47b60 kl_J5_208 (q0 := 0) rfl rfl (As := [.int (zI n), .ref (E 105 (35 + q))]) rfl rfl rfl dJ5_append_cf1ce_30 33 rfl (k' := 1) (n' := 70) rfl rfl (fsI (fun q q1 q2 => fr_or1 hp_f_5 (by simp [Fs]) q1 q2)) ⟨h_sb, h_sa⟩ (fun rv H10 lo10 hM hF hpo => ?_)
  obtain ⟨rfl, hw_0⟩ := hpo
  have h_sa : PR E v1_2 [(v1_2, .inl (E 102 2, N1_3, .inl (zA (cpD f1_4 (kwZ q) n (kwLen q)))))] H10 := hw_0
  replace hzl := Nat.le_trans hzl hF.1
  replace h_sb := h_sb.kept hF 1 rfl (fsd (by omega))
  show V p l e (rmL 4 1 70) s m args below meth cd Q 3 H10 lo10 1 70 33 [(2, .int (zI (kwLen q))), (0, .ref b), (1, .ref (E 105 (35 + q)))] []
  refine v_aload_n X dJ5_append_cf1ce_33 34 rfl 1 rfl ?_
  refine v_dup X dJ5_append_cf1ce_34 35 rfl rfl ?_
  refine v_getf X hM.C h_sb.1 inJ4 0 rfl rfl 3 (by decide) kf_J5_79 (fun _ h => h) rfl dJ5_append_cf1ce_35 38 rfl ?_
  show V p l e (rmL 4 1 70) s m args below meth cd Q 3 H10 lo10 1 70 38 [(2, .int (zI (kwLen q))), (0, .ref b), (1, .ref (E 105 (35 + q)))] [.int (zI n), .ref b]
  refine v_iload_n X dJ5_append_cf1ce_38 39 rfl 0 rfl ?_
  refine v_iadd X dJ5_append_cf1ce_39 40 rfl ?_
  refine v_putf X hM h_sb ftJ4 0 rfl rfl 3 (by decide) kf_J5_79 (fun _ h => h) rfl rfl rfl (Nat.le_of_ble_eq_true rfl) (Or.inl (fsH (by omega) (by omega))) dJ5_append_cf1ce_40 43 rfl (ws' := [(b, .inr (1, [.ref v1_2, .int (zI 0), .int (zI ml), .int (zI (n + kwLen q))]))]) rfl (fun H11 lo11 hzz hM hF h_sb => ?_)
  clear hzz
  replace hzl := Nat.le_trans hzl hF.1
  replace h_sa := h_sa.kept hF 1 rfl (fsd (by omega))
  refine v_aload_n X dJ5_append_cf1ce_43 44 rfl 1 rfl ?_
  subst hQ; exact m_aret X hr (Or.inl ⟨_, rfl⟩) hlk hM dJ5_append_cf1ce_44 rfl (Or.inr ⟨_, rfl⟩) ⟨v1_2, N1_3, (cpD f1_4 (kwZ q) n (kwLen q)), rfl, (by omega), (by omega), (by omega), (by intro j hj; rw [cpD_lo (by omega)]; exact hp_f_8 j (by omega)), (by intro j hj; exact cpD_in hj.1 hj.2), (by exact cpD_b hp_f_9 (kwZ_b hq)), h_sb, h_sa⟩
set_option maxHeartbeats 4000000 in
set_option maxRecDepth 20000 in
theorem c_J5_appendSO (l : Launch) (E : Nat → Nat → Nat) (b : Nat) (v : Nat) (N : Nat) (f : Int → Int) (ml : Int) (n : Int) (z : Nat) (o : Nat) (u : Nat) (M : Nat) (g : Int → Int) (M1 : M < 1000) (hg : ∀ j : Int, 0 ≤ g j ∧ g j < 128) (n0 : 0 ≤ n) (n1 : n ≤ (N : Int)) (n2 : n + (M : Int) ≤ 70) (n3 : n + (M : Int) ≤ 2 * (N : Int) + 2) (hN : N = 16 ∨ N = 34 ∨ N = 70) (hf : ∀ j : Int, 0 ≤ f j ∧ f j < 128) (hbz : b < z) (hd_sb_sa : b + 1 ≤ v ∨ v + 1 ≤ b) (hd_sb_so : b + 1 ≤ o ∨ o + 1 ≤ b) (hd_sb_sg : b + 1 ≤ u ∨ u + 1 ≤ b) (hd_sa_so : v + 1 ≤ o ∨ o + 1 ≤ v) (hd_sa_sg : v + 1 ≤ u ∨ u + 1 ≤ v) : Mu l yJ5_append_cf1ce cJ5_append_cf1ce 3 (some (.object "java/lang/AbstractStringBuilder")) 4 1 70 E [(b, 1), (v, 1)] [.ref b, .ref o] (fun H => PR E b [(b, .inr (1, [.ref v, .int (zI 0), .int (zI ml), .int (zI n)]))] H ∧ PR E v [(v, .inl (E 102 2, N, .inl (zA f)))] H ∧ PR E o [(o, .inr (0, [.ref u, .int (zI 0), .int (zI 0), .int (zI 0)]))] H ∧ PR E u [(u, .inl (E 102 2, M, .inl (zA g)))] H ∧ z ≤ H.size) (fun rv H => ∃ v1 : Nat, ∃ N1 : Nat, ∃ f1 : Int → Int, rv = some (.ref b) ∧ (v1 = v ∨ z ≤ v1) ∧ (N1 = 16 ∨ N1 = 34 ∨ N1 = 70) ∧ n + (M : Int) ≤ (N1 : Int) ∧ (∀ j : Int, 0 ≤ j ∧ j < n → f1 j = f j) ∧ (∀ j : Int, 0 ≤ j ∧ j < (M : Int) → f1 (n + j) = g j) ∧ (∀ j : Int, 0 ≤ f1 j ∧ f1 j < 128) ∧ PR E b [(b, .inr (1, [.ref v1, .int (zI 0), .int (zI ml), .int (zI (n + (M : Int)))]))] H ∧ PR E v1 [(v1, .inl (E 102 2, N1, .inl (zA f1)))] H) := by
  refine Mu.start (own := RJ5) rfl (by decide +kernel) (Nat.le_of_ble_eq_true rfl) ?_
  intro p e s m below meth cd args Q hQ X hr hlk hnm hM hPr
  obtain ⟨h_sb, h_sa, h_so, h_sg, hzl⟩ := hPr
  have hz : s.heap.size = s.heap.size := rfl
  have hzl0 := hzl
  have hbs : b < s.heap.size := (h_sb.1 0 _ rfl).lt
  have hu9 : u < s.heap.size := (h_sg.1 0 _ rfl).lt
  have ho9 : o < s.heap.size := (h_so.1 0 _ rfl).lt
  refine v_aload_n X dJ5_append_cf1ce_0 1 rfl 1 rfl ?_
  refine v_ifnonnull X dJ5_append_cf1ce_1 9 (by decide) ?_
  refine v_aload_n X dJ5_append_cf1ce_9 10 rfl 1 rfl ?_
  refine v_rdV X hM.C (PW.app h_so.1 h_sg.1) (c_J0_lengthO l E o u M g M1) kvJ0_length_8abf5 kiJ0_length_8abf5 kl_J5_32 rfl rfl (As := []) rfl rfl rfl dJ5_append_cf1ce_10 13 rfl ?_
  show V p l e (rmL 4 1 70) s m args below meth cd Q 3 s.heap [] 0 0 13 [(0, .ref b), (1, .ref o)] [.int (zI (M : Int))]
  refine v_istore_n X dJ5_append_cf1ce_13 14 rfl rfl (by decide) (L' := [(2, .int (zI (M : Int))), (0, .ref b), (1, .ref o)]) rfl ?_
  refine v_aload_n X dJ5_append_cf1ce_14 15 rfl 1 rfl ?_
  refine v_aload_n X dJ5_append_cf1ce_15 16 rfl 1 rfl ?_
  refine v_getf X hM.C h_sb.1 inJ4 0 rfl rfl 3 (by decide) kf_J5_79 (fun _ h => h) rfl dJ5_append_cf1ce_16 19 rfl ?_
  show V p l e (rmL 4 1 70) s m args below meth cd Q 3 s.heap [] 0 0 19 [(2, .int (zI (M : Int))), (0, .ref b), (1, .ref o)] [.int (zI n), .ref b]
  refine v_iload_n X dJ5_append_cf1ce_19 20 rfl 0 rfl ?_
  refine v_iadd X dJ5_append_cf1ce_20 21 rfl ?_
  refine v_muU (C := RJ4) (hsel := va_Nw.use rfl (hM.C.2.2.2.1.2.2.2 _ (by simp))) X hM (h_sb.1) (c_J5_ensure2 l E b v N f ml n s.heap.size (n + (M : Int)) hN (by omega) (by omega) (by omega) hf (by omega) hd_sb_sa) kvJ5_ensureCapacityInternal_d00df kim_J5_ensureCapacityInternal_d00df ksm_J5_ensureCapacityInternal_d00df kl_J5_100 (q0 := 0) rfl rfl (As := [.int (zI (n + (M : Int)))]) rfl rfl rfl dJ5_append_cf1ce_21 24 rfl (k' := 1) (n' := 70) rfl rfl (fsI (fun q q1 q2 => (Or.inl (fsH (by omega) (by omega))))) ⟨h_sb, h_sa, (by omega)⟩ (fun rv H1 lo1 hM hF hpo => ?_)
  obtain ⟨v1_2, N1_3, f1_4, rfl, hp_f_5, hp_f_6, hp_f_7, hp_f_8, hp_f_9, hw_0, hw_1⟩ := hpo
  have h_sb : PR E b [(b, .inr (1, [.ref v1_2, .int (zI 0), .int (zI ml), .int (zI n)]))] H1 := hw_0
  have h_sa : PR E v1_2 [(v1_2, .inl (E 102 2, N1_3, .inl (zA f1_4)))] H1 := hw_1
  replace hzl := Nat.le_trans hzl hF.1
  replace h_so := h_so.kept hF 1 rfl (fsd (by omega))
  replace h_sg := h_sg.kept hF 1 rfl (fsd (by omega))
  show V p l e (rmL 4 1 70) s m args below meth cd Q 3 H1 lo1 1 70 24 [(2, .int (zI (M : Int))), (0, .ref b), (1, .ref o)] []
  have hd9 : b + 1 ≤ v1_2 ∨ v1_2 + 1 ≤ b := by omega
  have hd8 : u + 1 ≤ v1_2 ∨ v1_2 + 1 ≤ u := by omega
  have hd7 : o + 1 ≤ v1_2 ∨ v1_2 + 1 ≤ o := by omega
  refine v_aload_n X dJ5_append_cf1ce_24 25 rfl 1 rfl ?_
  refine v_aload_n X dJ5_append_cf1ce_25 26 rfl 1 rfl ?_
  refine v_getf X hM.C h_sb.1 inJ4 0 rfl rfl 3 (by decide) kf_J5_79 (fun _ h => h) rfl dJ5_append_cf1ce_26 29 rfl ?_
  show V p l e (rmL 4 1 70) s m args below meth cd Q 3 H1 lo1 1 70 29 [(2, .int (zI (M : Int))), (0, .ref b), (1, .ref o)] [.int (zI n), .ref b]
  refine v_aload_n X dJ5_append_cf1ce_29 30 rfl 2 rfl ?_
  refine v_muU (C := RJ4) (hsel := va_Nw.use rfl (hM.C.2.2.2.1.2.2.2 _ (by simp))) X hM (h_sb.1) (c_J5_putO l E b v1_2 N1_3 f1_4 ml n n o u M g n0 (by omega) (by omega) hg (by omega) (by omega) (by omega)) kvJ5_putStringAt_47b60 kim_J5_putStringAt_47b60 ksm_J5_putStringAt_47b60 kl_J5_208 (q0 := 0) rfl rfl (As := [.int (zI n), .ref o]) rfl rfl rfl dJ5_append_cf1ce_30 33 rfl (k' := 1) (n' := 70) rfl rfl (fsI (fun q q1 q2 => fr_or1 hp_f_5 (by simp [Fs]) q1 q2)) ⟨h_sb, h_sa, h_so, h_sg⟩ (fun rv H10 lo10 hM hF hpo => ?_)
  obtain ⟨rfl, hw_0⟩ := hpo
  have h_sa : PR E v1_2 [(v1_2, .inl (E 102 2, N1_3, .inl (zA (cpD f1_4 g n (M : Int)))))] H10 := hw_0
  replace hzl := Nat.le_trans hzl hF.1
  replace h_sb := h_sb.kept hF 1 rfl (fsd (by omega))
  replace h_so := h_so.kept hF 1 rfl (fsd (by omega))
  replace h_sg := h_sg.kept hF 1 rfl (fsd (by omega))
  show V p l e (rmL 4 1 70) s m args below meth cd Q 3 H10 lo10 1 70 33 [(2, .int (zI (M : Int))), (0, .ref b), (1, .ref o)] []
  refine v_aload_n X dJ5_append_cf1ce_33 34 rfl 1 rfl ?_
  refine v_dup X dJ5_append_cf1ce_34 35 rfl rfl ?_
  refine v_getf X hM.C h_sb.1 inJ4 0 rfl rfl 3 (by decide) kf_J5_79 (fun _ h => h) rfl dJ5_append_cf1ce_35 38 rfl ?_
  show V p l e (rmL 4 1 70) s m args below meth cd Q 3 H10 lo10 1 70 38 [(2, .int (zI (M : Int))), (0, .ref b), (1, .ref o)] [.int (zI n), .ref b]
  refine v_iload_n X dJ5_append_cf1ce_38 39 rfl 0 rfl ?_
  refine v_iadd X dJ5_append_cf1ce_39 40 rfl ?_
  refine v_putf X hM h_sb ftJ4 0 rfl rfl 3 (by decide) kf_J5_79 (fun _ h => h) rfl rfl rfl (Nat.le_of_ble_eq_true rfl) (Or.inl (fsH (by omega) (by omega))) dJ5_append_cf1ce_40 43 rfl (ws' := [(b, .inr (1, [.ref v1_2, .int (zI 0), .int (zI ml), .int (zI (n + (M : Int)))]))]) rfl (fun H11 lo11 hzz hM hF h_sb => ?_)
  clear hzz
  replace hzl := Nat.le_trans hzl hF.1
  replace h_sa := h_sa.kept hF 1 rfl (fsd (by omega))
  replace h_so := h_so.kept hF 1 rfl (fsd (by omega))
  replace h_sg := h_sg.kept hF 1 rfl (fsd (by omega))
  refine v_aload_n X dJ5_append_cf1ce_43 44 rfl 1 rfl ?_
  subst hQ; exact m_aret X hr (Or.inl ⟨_, rfl⟩) hlk hM dJ5_append_cf1ce_44 rfl (Or.inr ⟨_, rfl⟩) ⟨v1_2, N1_3, (cpD f1_4 g n (M : Int)), rfl, (by omega), (by omega), (by omega), (by intro j hj; rw [cpD_lo (by omega)]; exact hp_f_8 j (by omega)), (by intro j hj; exact cpD_in hj.1 hj.2), (by exact cpD_b hp_f_9 hg), h_sb, h_sa⟩
set_option maxHeartbeats 4000000 in
set_option maxRecDepth 20000 in
theorem c_J4_appendSK (l : Launch) (E : Nat → Nat → Nat) (b : Nat) (v : Nat) (N : Nat) (f : Int → Int) (ml : Int) (n : Int) (z : Nat) (q : Nat) (hq : q < 13) (n0 : 0 ≤ n) (n1 : n ≤ (N : Int)) (n2 : n + kwLen q ≤ 70) (n3 : n + kwLen q ≤ 2 * (N : Int) + 2) (hN : N = 16 ∨ N = 34 ∨ N = 70) (hf : ∀ j : Int, 0 ≤ f j ∧ f j < 128) (hbz : b < z) (hd_sb_sa : b + 1 ≤ v ∨ v + 1 ≤ b) : Mu l yJ4_append_15ec4 cJ4_append_15ec4 2 (some (.object "java/lang/StringBuilder")) 5 1 70 E [(b, 1), (v, 1)] [.ref b, .ref (E 105 (35 + q))] (fun H => PR E b [(b, .inr (1, [.ref v, .int (zI 0), .int (zI ml), .int (zI n)]))] H ∧ PR E v [(v, .inl (E 102 2, N, .inl (zA f)))] H ∧ z ≤ H.size) (fun rv H => ∃ v1 : Nat, ∃ N1 : Nat, ∃ f1 : Int → Int, rv = some (.ref b) ∧ (v1 = v ∨ z ≤ v1) ∧ (N1 = 16 ∨ N1 = 34 ∨ N1 = 70) ∧ n + kwLen q ≤ (N1 : Int) ∧ (∀ j : Int, 0 ≤ j ∧ j < n → f1 j = f j) ∧ (∀ j : Int, 0 ≤ j ∧ j < kwLen q → f1 (n + j) = kwZ q j) ∧ (∀ j : Int, 0 ≤ f1 j ∧ f1 j < 128) ∧ PR E b [(b, .inr (1, [.ref v1, .int (zI 0), .int (zI ml), .int (zI (n + kwLen q))]))] H ∧ PR E v1 [(v1, .inl (E 102 2, N1, .inl (zA f1)))] H) := by
  refine Mu.start (own := RJ4) rfl (by decide +kernel) (Nat.le_of_ble_eq_true rfl) ?_
  intro p e s m below meth cd args Q hQ X hr hlk hnm hM hPr
  obtain ⟨h_sb, h_sa, hzl⟩ := hPr
  have hz : s.heap.size = s.heap.size := rfl
  have hzl0 := hzl
  refine v_aload_n X dJ4_append_15ec4_0 1 rfl 0 rfl ?_
  refine v_aload_n X dJ4_append_15ec4_1 2 rfl 1 rfl ?_
  refine v_muSU (C := RJ4) X hM (h_sb.1) (c_J5_appendSK l E b v N f ml n z q hq n0 n1 n2 n3 hN hf hbz hd_sb_sa) kvJ5_append_cf1ce kim_J5_append_cf1ce ksm_J5_append_cf1ce ksup_J4 (by decide) kl_J4_29 (q0 := 0) rfl rfl (As := [.ref (E 105 (35 + q))]) rfl rfl rfl dJ4_append_15ec4_2 5 rfl (k' := 1) (n' := 70) rfl rfl (by intro q hq; simp only [Fr, Fs, or_false, false_or] at hq ⊢; omega) ⟨h_sb, h_sa, (by omega)⟩ (fun rv H1 lo1 hM hF hpo => ?_)
  obtain ⟨v1_2, N1_3, f1_4, rfl, hp_f_5, hp_f_6, hp_f_7, hp_f_8, hp_f_9, hp_f_10, hw_0, hw_1⟩ := hpo
  have h_sb : PR E b [(b, .inr (1, [.ref v1_2, .int (zI 0), .int (zI ml), .int (zI (n + kwLen q))]))] H1 := hw_0
  have h_sa : PR E v1_2 [(v1_2, .inl (E 102 2, N1_3, .inl (zA f1_4)))] H1 := hw_1
  replace hzl := Nat.le_trans hzl hF.1
  show V p l e (rmL 5 1 70) s m args below meth cd Q 2 H1 lo1 1 70 5 [(0, .ref b), (1, .ref (E 105 (35 + q)))] [.ref b]
  refine v_pop X dJ4_append_15ec4_5 6 rfl rfl ?_
  refine v_aload_n X dJ4_append_15ec4_6 7 rfl 0 rfl ?_
  subst hQ; exact m_aret X hr (Or.inl ⟨_, rfl⟩) hlk hM dJ4_append_15ec4_7 rfl (Or.inr ⟨_, rfl⟩) ⟨v1_2, N1_3, f1_4, rfl, (by exact hp_f_5), (by exact hp_f_6), (by exact hp_f_7), (by exact hp_f_8), (by exact hp_f_9), (by exact hp_f_10), h_sb, h_sa⟩
set_option maxHeartbeats 4000000 in
set_option maxRecDepth 20000 in
theorem c_J4_appendSO (l : Launch) (E : Nat → Nat → Nat) (b : Nat) (v : Nat) (N : Nat) (f : Int → Int) (ml : Int) (n : Int) (z : Nat) (o : Nat) (u : Nat) (M : Nat) (g : Int → Int) (M1 : M < 1000) (hg : ∀ j : Int, 0 ≤ g j ∧ g j < 128) (n0 : 0 ≤ n) (n1 : n ≤ (N : Int)) (n2 : n + (M : Int) ≤ 70) (n3 : n + (M : Int) ≤ 2 * (N : Int) + 2) (hN : N = 16 ∨ N = 34 ∨ N = 70) (hf : ∀ j : Int, 0 ≤ f j ∧ f j < 128) (hbz : b < z) (hd_sb_sa : b + 1 ≤ v ∨ v + 1 ≤ b) (hd_sb_so : b + 1 ≤ o ∨ o + 1 ≤ b) (hd_sb_sg : b + 1 ≤ u ∨ u + 1 ≤ b) (hd_sa_so : v + 1 ≤ o ∨ o + 1 ≤ v) (hd_sa_sg : v + 1 ≤ u ∨ u + 1 ≤ v) : Mu l yJ4_append_15ec4 cJ4_append_15ec4 2 (some (.object "java/lang/StringBuilder")) 5 1 70 E [(b, 1), (v, 1)] [.ref b, .ref o] (fun H => PR E b [(b, .inr (1, [.ref v, .int (zI 0), .int (zI ml), .int (zI n)]))] H ∧ PR E v [(v, .inl (E 102 2, N, .inl (zA f)))] H ∧ PR E o [(o, .inr (0, [.ref u, .int (zI 0), .int (zI 0), .int (zI 0)]))] H ∧ PR E u [(u, .inl (E 102 2, M, .inl (zA g)))] H ∧ z ≤ H.size) (fun rv H => ∃ v1 : Nat, ∃ N1 : Nat, ∃ f1 : Int → Int, rv = some (.ref b) ∧ (v1 = v ∨ z ≤ v1) ∧ (N1 = 16 ∨ N1 = 34 ∨ N1 = 70) ∧ n + (M : Int) ≤ (N1 : Int) ∧ (∀ j : Int, 0 ≤ j ∧ j < n → f1 j = f j) ∧ (∀ j : Int, 0 ≤ j ∧ j < (M : Int) → f1 (n + j) = g j) ∧ (∀ j : Int, 0 ≤ f1 j ∧ f1 j < 128) ∧ PR E b [(b, .inr (1, [.ref v1, .int (zI 0), .int (zI ml), .int (zI (n + (M : Int)))]))] H ∧ PR E v1 [(v1, .inl (E 102 2, N1, .inl (zA f1)))] H) := by
  refine Mu.start (own := RJ4) rfl (by decide +kernel) (Nat.le_of_ble_eq_true rfl) ?_
  intro p e s m below meth cd args Q hQ X hr hlk hnm hM hPr
  obtain ⟨h_sb, h_sa, h_so, h_sg, hzl⟩ := hPr
  have hz : s.heap.size = s.heap.size := rfl
  have hzl0 := hzl
  refine v_aload_n X dJ4_append_15ec4_0 1 rfl 0 rfl ?_
  refine v_aload_n X dJ4_append_15ec4_1 2 rfl 1 rfl ?_
  refine v_muSU (C := RJ4) X hM (h_sb.1) (c_J5_appendSO l E b v N f ml n z o u M g M1 hg n0 n1 n2 n3 hN hf hbz hd_sb_sa hd_sb_so hd_sb_sg hd_sa_so hd_sa_sg) kvJ5_append_cf1ce kim_J5_append_cf1ce ksm_J5_append_cf1ce ksup_J4 (by decide) kl_J4_29 (q0 := 0) rfl rfl (As := [.ref o]) rfl rfl rfl dJ4_append_15ec4_2 5 rfl (k' := 1) (n' := 70) rfl rfl (by intro q hq; simp only [Fr, Fs, or_false, false_or] at hq ⊢; omega) ⟨h_sb, h_sa, h_so, h_sg, (by omega)⟩ (fun rv H1 lo1 hM hF hpo => ?_)
  obtain ⟨v1_2, N1_3, f1_4, rfl, hp_f_5, hp_f_6, hp_f_7, hp_f_8, hp_f_9, hp_f_10, hw_0, hw_1⟩ := hpo
  have h_sb : PR E b [(b, .inr (1, [.ref v1_2, .int (zI 0), .int (zI ml), .int (zI (n + (M : Int)))]))] H1 := hw_0
  have h_sa : PR E v1_2 [(v1_2, .inl (E 102 2, N1_3, .inl (zA f1_4)))] H1 := hw_1
  replace hzl := Nat.le_trans hzl hF.1
  replace h_so := h_so.kept hF 1 rfl (by intro q q1 q2 q3; simp only [Fs, or_false] at q3; omega)
  replace h_sg := h_sg.kept hF 1 rfl (by intro q q1 q2 q3; simp only [Fs, or_false] at q3; omega)
  show V p l e (rmL 5 1 70) s m args below meth cd Q 2 H1 lo1 1 70 5 [(0, .ref b), (1, .ref o)] [.ref b]
  refine v_pop X dJ4_append_15ec4_5 6 rfl rfl ?_
  refine v_aload_n X dJ4_append_15ec4_6 7 rfl 0 rfl ?_
  subst hQ; exact m_aret X hr (Or.inl ⟨_, rfl⟩) hlk hM dJ4_append_15ec4_7 rfl (Or.inr ⟨_, rfl⟩) ⟨v1_2, N1_3, f1_4, rfl, (by exact hp_f_5), (by exact hp_f_6), (by exact hp_f_7), (by exact hp_f_8), (by exact hp_f_9), (by exact hp_f_10), h_sb, h_sa⟩
set_option maxHeartbeats 4000000 in
set_option maxRecDepth 20000 in
theorem c_J7_checkLength_df160 (l : Launch) (E : Nat → Nat → Nat) (i : Int) (j : Int) (ij : i ≤ j) (gi : Rg i) (gj : Rg j) : Rd l yJ7_checkLength_df160 cJ7_checkLength_df160 2 none 0 E [.int (zI i), .int (zI j)] ([]) none := by
  refine Rd.start (own := RJ7) rfl (by decide +kernel) (Nat.le_of_ble_eq_true rfl) ?_
  intro p e s m below meth cd args Q hQ X hr hlk hC hP
  refine v_iload_n X dJ7_checkLength_df160_0 1 rfl 1 rfl ?_
  refine v_iload_n X dJ7_checkLength_df160_1 2 rfl 0 rfl ?_
  refine v_icmp_ge X (by omega) (by omega) dJ7_checkLength_df160_2 5 37 rfl (by decide) (fun c_1 => ?_) (fun c_1 => ?_)
  · skip
    subst hQ; exact v_vret0 X hr hlk dJ7_checkLength_df160_37
  · skip
    exfalso; omega
set_option maxHeartbeats 4000000 in
set_option maxRecDepth 20000 in
theorem c_J7_cprB (l : Launch) (E : Nat → Nat → Nat) (v : Nat) (N : Nat) (f : Int → Int) (w9 : Nat) (z : Nat) (m1 : w9 ≤ N) (N1 : N ≤ 70) (hf : ∀ j : Int, 0 ≤ f j ∧ f j < 128) : Mu l yJ7_copyOfRangeByte_39247 cJ7_copyOfRangeByte_39247 5 (some (.array .byte)) 1 1 70 E [] [.ref v, .int (zI 0), .int (zI (w9 : Int))] (fun H => PR E v [(v, .inl (E 102 2, N, .inl (zA f)))] H ∧ H.size = z) (fun rv H => ∃ f1 : Int → Int, rv = some (.ref z) ∧ (∀ j : Int, 0 ≤ j ∧ j < (w9 : Int) → f1 j = f j) ∧ (∀ j : Int, 0 ≤ f1 j ∧ f1 j < 128) ∧ PR E z [(z, .inl (E 102 2, w9, .inl (zA f1)))] H ∧ H.size = z + 1) := by
  refine Mu.start (own := RJ7) rfl (by decide +kernel) (Nat.le_of_ble_eq_true rfl) ?_
  intro p e s m below meth cd args Q hQ X hr hlk hnm hM hPr
  obtain ⟨h_sa, hz⟩ := hPr
  have hz0 := hz
  have hvs : v < s.heap.size := (h_sa.1 0 _ rfl).lt
  refine v_iload_n X dJ7_copyOfRangeByte_39247_0 1 rfl 1 rfl ?_
  refine v_iload_n X dJ7_copyOfRangeByte_39247_1 2 rfl 2 rfl ?_
  refine v_rdS X hM.C (ws0 E s.heap) (c_J7_checkLength_df160 l E 0 (w9 : Int) (by omega) (by omega) (by omega)) kvJ7_checkLength_df160 ksJ7_checkLength_df160 kl_J7_343 (As := [.int (zI 0), .int (zI (w9 : Int))]) rfl rfl rfl dJ7_copyOfRangeByte_39247_2 5 rfl ?_
  show V p l e (rmL 1 1 70) s m args below meth cd Q 5 s.heap [] 0 0 5 [(0, .ref v), (1, .int (zI 0)), (2, .int (zI (w9 : Int)))] []
  refine v_iload_n X dJ7_copyOfRangeByte_39247_5 6 rfl 2 rfl ?_
  refine v_iload_n X dJ7_copyOfRangeByte_39247_6 7 rfl 1 rfl ?_
  refine v_isub X dJ7_copyOfRangeByte_39247_7 8 rfl ?_
  refine v_istore_n X dJ7_copyOfRangeByte_39247_8 9 rfl rfl (by decide) (L' := [(3, .int (zI ((w9 : Int) - 0))), (0, .ref v), (1, .int (zI 0)), (2, .int (zI (w9 : Int)))]) rfl ?_
  refine v_iload_n X dJ7_copyOfRangeByte_39247_9 10 rfl 0 rfl ?_
  refine v_newa X hM (atype := .byte) rfl rfl karr_byte 2 rfl (N := w9) (by omega) (by omega) (by show _ * 1 ≤ _; omega) ⟨Nat.le_of_ble_eq_true rfl, (by show _ ≤ 70; omega)⟩ dJ7_copyOfRangeByte_39247_10 12 rfl (k' := 1) (n' := 0 + w9) rfl rfl (fun o H1 ho hz1 hM hF h_new => ?_)
  refine v_widen (k' := 1) (n' := 70) (by omega) (by omega) ?_
  obtain rfl : z = o := (ho.trans hz).symm
  replace hz : H1.size = z + 1 := hz1
  clear ho hz1
  have h_n_2 : PR E z [(z, .inl (E 102 2, w9, .inl (zA (fun _ => 0))))] H1 := h_new
  replace h_sa := h_sa.kept hF 1 rfl (fun q _ _ h => h.elim)
  refine v_astore X dJ7_copyOfRangeByte_39247_12 14 rfl (by decide) (L' := [(4, .ref z), (3, .int (zI ((w9 : Int) - 0))), (0, .ref v), (1, .int (zI 0)), (2, .int (zI (w9 : Int)))]) rfl ?_
  refine v_aload_n X dJ7_copyOfRangeByte_39247_14 15 rfl 2 rfl ?_
  refine v_iload_n X dJ7_copyOfRangeByte_39247_15 16 rfl 3 rfl ?_
  refine v_aload X dJ7_copyOfRangeByte_39247_16 18 rfl 0 rfl ?_
  refine v_iconst X dJ7_copyOfRangeByte_39247_18 19 rfl ?_
  refine v_aload_n X dJ7_copyOfRangeByte_39247_19 20 rfl 2 rfl ?_
  refine v_alen X hM.C h_sa.1 0 2 rfl rfl dJ7_copyOfRangeByte_39247_20 21 rfl ?_
  refine v_iload_n X dJ7_copyOfRangeByte_39247_21 22 rfl 3 rfl ?_
  refine v_isub X dJ7_copyOfRangeByte_39247_22 23 rfl ?_
  refine v_iload_n X dJ7_copyOfRangeByte_39247_23 24 rfl 1 rfl ?_
  refine v_mmin X (by omega) (by omega) kl_J7_304 dJ7_copyOfRangeByte_39247_24 27 rfl rfl ?_
  refine v_copy X hM h_sa.1 h_n_2 (t0 := 2) (q0 := 0) (q1 := 0) (ty := .byte) rfl rfl rfl rfl (by omega) (by omega) (by omega) (by omega) (by omega) (fun i _ _ => lat_fb (hf i)) (Or.inr (by omega)) kl_J7_150 rfl dJ7_copyOfRangeByte_39247_27 30 rfl (ws' := [(z, .inl (E 102 2, w9, .inl (zA (fun i => if 0 ≤ i ∧ i < min ((N : Int) - 0) ((w9 : Int) - 0) then f i else (fun _ => 0) i))))]) rfl (fun H3 lo3 hzz hM hF h_n_2 => ?_)
  replace hz : H3.size = z + 1 := hzz.trans hz
  clear hzz
  replace h_sa := h_sa.kept hF 1 rfl (fsd (by omega))
  refine v_aload X dJ7_copyOfRangeByte_39247_30 32 rfl 0 rfl ?_
  subst hQ; exact m_aret X hr (Or.inr ⟨_, rfl⟩) hlk hM dJ7_copyOfRangeByte_39247_32 rfl (Or.inr ⟨_, rfl⟩) ⟨(fun i => if 0 ≤ i ∧ i < min ((N : Int) - 0) ((w9 : Int) - 0) then f i else (fun _ => 0) i), rfl, (by intro j hj; dsimp only; rw [if_pos (by omega)]), (by intro j; have := hf j; dsimp only; split <;> omega), (by exact h_n_2), (by omega)⟩
set_option maxHeartbeats 4000000 in
set_option maxRecDepth 20000 in
theorem c_J7_cpr (l : Launch) (E : Nat → Nat → Nat) (v : Nat) (N : Nat) (f : Int → Int) (w9 : Nat) (z : Nat) (m1 : w9 ≤ N) (N1 : N ≤ 70) (hf : ∀ j : Int, 0 ≤ f j ∧ f j < 128) : Mu l yJ7_copyOfRange_39247 cJ7_copyOfRange_39247 3 (some (.array .byte)) 2 1 70 E [] [.ref v, .int (zI 0), .int (zI (w9 : Int))] (fun H => PR E v [(v, .inl (E 102 2, N, .inl (zA f)))] H ∧ H.size = z) (fun rv H => ∃ f1 : Int → Int, rv = some (.ref z) ∧ (∀ j : Int, 0 ≤ j ∧ j < (w9 : Int) → f1 j = f j) ∧ (∀ j : Int, 0 ≤ f1 j ∧ f1 j < 128) ∧ PR E z [(z, .inl (E 102 2, w9, .inl (zA f1)))] H ∧ H.size = z + 1) := by
  refine Mu.start (own := RJ7) rfl (by decide +kernel) (Nat.le_of_ble_eq_true rfl) ?_
  intro p e s m below meth cd args Q hQ X hr hlk hnm hM hPr
  obtain ⟨h_sa, hz⟩ := hPr
  have hz0 := hz
  have hvs : v < s.heap.size := (h_sa.1 0 _ rfl).lt
  refine v_iload_n X dJ7_copyOfRange_39247_0 1 rfl 1 rfl ?_
  refine v_if_ne X (by omega) dJ7_copyOfRange_39247_1 4 10 rfl (by decide) (fun c_1 => ?_) (fun c_1 => ?_)
  · skip
    exfalso; omega
  · skip
    refine v_iload_n X dJ7_copyOfRange_39247_4 5 rfl 2 rfl ?_
    refine v_aload_n X dJ7_copyOfRange_39247_5 6 rfl 0 rfl ?_
    refine v_alen X hM.C h_sa.1 0 2 rfl rfl dJ7_copyOfRange_39247_6 7 rfl ?_
    refine v_icmp_eq X (by omega) (by omega) dJ7_copyOfRange_39247_7 10 17 rfl (by decide) (fun c_2 => ?_) (fun c_2 => ?_)
    · skip
      refine v_aload_n X dJ7_copyOfRange_39247_17 18 rfl 0 rfl ?_
      refine v_clone (q0 := 0) X hM h_sa.1 rfl hf kl_J7_310 rfl ⟨Nat.le_of_ble_eq_true rfl, (by show _ ≤ 70; omega)⟩ dJ7_copyOfRange_39247_18 21 rfl (k' := 1) (n' := 0 + N) rfl rfl (fun o H3 ho hz1 hM hF h_new => ?_)
      refine v_widen (k' := 1) (n' := 70) (by omega) (by omega) ?_
      obtain rfl : z = o := (ho.trans hz).symm
      replace hz : H3.size = z + 1 := hz1
      clear ho hz1
      have h_n_4 : PR E z [(z, .inl (E 102 2, N, .inl (zA f)))] H3 := h_new
      replace h_sa := h_sa.kept hF 1 rfl (fun q _ _ h => h.elim)
      refine v_castB (q0 := 0) X hM.C h_n_4.1 rfl kc_J7_311 dJ7_copyOfRange_39247_21 24 rfl ?_
      subst hQ; exact m_aret X hr (Or.inr ⟨_, rfl⟩) hlk hM dJ7_copyOfRange_39247_24 rfl (Or.inr ⟨_, rfl⟩) ⟨f, rfl, (by intro j _; rfl), (by exact hf), (by exact (show w9 = N by omega) ▸ h_n_4), (by omega)⟩
    · skip
      refine v_aload_n X dJ7_copyOfRange_39247_10 11 rfl 0 rfl ?_
      refine v_iload_n X dJ7_copyOfRange_39247_11 12 rfl 1 rfl ?_
      refine v_iload_n X dJ7_copyOfRange_39247_12 13 rfl 2 rfl ?_
      refine v_muS X hM (c_J7_cprB l E v N f w9 z m1 N1 hf) kvJ7_copyOfRangeByte_39247 ksJ7_copyOfRangeByte_39247 kl_J7_339 (As := [.ref v, .int (zI 0), .int (zI (w9 : Int))]) rfl rfl rfl dJ7_copyOfRange_39247_13 16 rfl (k' := 1) (n' := 70) rfl rfl (fun q hq => hq.elim) ⟨h_sa, (by omega)⟩ (fun rv H5 lo5 hM hF hpo => ?_)
      obtain ⟨f1_6, rfl, hp_f_7, hp_f_8, hp_f_9, hz9⟩ := hpo
      clear hz
      have hz := hz9; clear hz9
      replace hz : H5.size = z + 1 := hz
      replace h_sa := h_sa.kept hF 1 rfl (fun q _ _ h => h.elim)
      show V p l e (rmL 2 1 70) s m args below meth cd Q 3 H5 lo5 1 70 16 [(0, .ref v), (1, .int (zI 0)), (2, .int (zI (w9 : Int)))] [.ref z]
      subst hQ; exact m_aret X hr (Or.inr ⟨_, rfl⟩) hlk hM dJ7_copyOfRange_39247_16 rfl (Or.inr ⟨_, rfl⟩) ⟨f1_6, rfl, (by exact hp_f_7), (by exact hp_f_8), (by exact hp_f_9), (by omega)⟩
set_option maxHeartbeats 4000000 in
set_option maxRecDepth 20000 in
theorem c_J5_getValue (l : Launch) (E : Nat → Nat → Nat) (b : Nat) (v : Nat) (ml : Int) (n : Int) : Rd l yJ5_getValue_6d5f1 cJ5_getValue_6d5f1 1 (some (.array .byte)) 0 E [.ref b] ([(b, .inr (1, [.ref v, .int (zI 0), .int (zI ml), .int (zI n)]))]) (some (.ref v)) := by
  refine Rd.start (own := RJ5) rfl (by decide +kernel) (Nat.le_of_ble_eq_true rfl) ?_
  intro p e s m below meth cd args Q hQ X hr hlk hC hP
  have h_sb := hP
  refine v_aload_n X dJ5_getValue_6d5f1_0 1 rfl 0 rfl ?_
  refine v_getf X hC h_sb inJ4 0 rfl rfl 0 (by decide) kf_J5_15 (fun _ h => h) rfl dJ5_getValue_6d5f1_1 4 rfl ?_
  subst hQ; exact v_aret0 X hr (Or.inr ⟨_, rfl⟩) hlk dJ5_getValue_6d5f1_4 (Or.inr ⟨_, rfl⟩)
set_option maxHeartbeats 4000000 in
set_option maxRecDepth 20000 in
theorem c_J0_initA (l : Launch) (E : Nat → Nat → Nat) (o : Nat) (b : Nat) (v : Nat) (N : Nat) (f : Int → Int) (ml : Int) (w9 : Nat) (m1 : w9 ≤ N) (N1 : N ≤ 70) (hf : ∀ j : Int, 0 ≤ f j ∧ f j < 128) (hd_so_sb : o + 1 ≤ b ∨ b + 1 ≤ o) (hd_so_sa : o + 1 ≤ v ∨ v + 1 ≤ o) : Mu l yJ0_init_db425 cJ0_init_db425 5 none 3 1 70 E [(o, 1)] [.ref o, .ref b, .null] (fun H => PR E o [(o, .inr (0, [.null, .int (zI 0), .int (zI 0), .int (zI 0)]))] H ∧ PR E b [(b, .inr (1, [.ref v, .int (zI 0), .int (zI ml), .int (zI (w9 : Int))]))] H ∧ PR E v [(v, .inl (E 102 2, N, .inl (zA f)))] H ∧ H.size = o + 1) (fun rv H => ∃ f1 : Int → Int, rv = none ∧ (∀ j : Int, 0 ≤ j ∧ j < (w9 : Int) → f1 j = f j) ∧ (∀ j : Int, 0 ≤ f1 j ∧ f1 j < 128) ∧ PR E (o + 1) [(o + 1, .inl (E 102 2, w9, .inl (zA f1)))] H ∧ PR E o [(o, .inr (0, [.ref (o + 1), .int (zI 0), .int (zI 0), .int (zI 0)]))] H ∧ H.size = o + 2) := by
  refine Mu.start (own := RJ0) rfl (by decide +kernel) (Nat.le_of_ble_eq_true rfl) ?_
  intro p e s m below meth cd args Q hQ X hr hlk hnm hM hPr
  obtain ⟨h_so, h_sb, h_sa, hz⟩ := hPr
  have hz0 := hz
  have hvs : v < s.heap.size := (h_sa.1 0 _ rfl).lt
  have hbs : b < s.heap.size := (h_sb.1 0 _ rfl).lt
  refine v_aload_n X dJ0_init_db425_0 1 rfl 0 rfl ?_
  refine v_objinit X kl_J0_1 dJ0_init_db425_1 4 rfl rfl ?_
  refine v_aload_n X dJ0_init_db425_4 5 rfl 1 rfl ?_
  refine v_rdU (C := RJ4) (hsel := X.2.2.2.2 _ ksl_J5_getValue_6d5f1) X hM.C h_sb.1 (c_J5_getValue l E b v ml (w9 : Int)) kvJ5_getValue_6d5f1 kim_J5_getValue_6d5f1 ksm_J5_getValue_6d5f1 kl_J0_552 rfl rfl (As := []) rfl rfl rfl dJ0_init_db425_5 8 rfl ?_
  show V p l e (rmL 3 1 70) s m args below meth cd Q 5 s.heap [] 0 0 8 [(0, .ref o), (1, .ref b), (2, .null)] [.ref v]
  refine v_astore_n X dJ0_init_db425_8 9 rfl rfl (by decide) (L' := [(3, .ref v), (0, .ref o), (1, .ref b), (2, .null)]) rfl ?_
  refine v_aload_n X dJ0_init_db425_9 10 rfl 2 rfl ?_
  refine v_rdU2 ksl2_J4_length X hM.C h_sb.1 (c_J4_length_8abf5 l E b v ml (w9 : Int)) kvJ4_length_8abf5 kiJ4_length_8abf5.1 kvJ5_length_8abf5 kim_J5_length_8abf5 ksm_J5_length_8abf5 kl_J0_549 rfl rfl (As := []) rfl rfl rfl dJ0_init_db425_10 13 rfl ?_
  show V p l e (rmL 3 1 70) s m args below meth cd Q 5 s.heap [] 0 0 13 [(3, .ref v), (0, .ref o), (1, .ref b), (2, .null)] [.int (zI (w9 : Int))]
  refine v_istore X dJ0_init_db425_13 15 rfl (by decide) (L' := [(4, .int (zI (w9 : Int))), (3, .ref v), (0, .ref o), (1, .ref b), (2, .null)]) rfl ?_
  refine v_aload_n X dJ0_init_db425_15 16 rfl 3 rfl ?_
  refine v_rdU (C := RJ4) (hsel := X.2.2.2.2 _ ksl_J5_isLatin1_aae02) X hM.C h_sb.1 (c_J5_isLatin1_aae02 l E b v ml (w9 : Int)) kvJ5_isLatin1_aae02 kim_J5_isLatin1_aae02 ksm_J5_isLatin1_aae02 kl_J0_1047 rfl rfl (As := []) rfl rfl rfl dJ0_init_db425_16 19 rfl ?_
  show V p l e (rmL 3 1 70) s m args below meth cd Q 5 s.heap [] 0 0 19 [(4, .int (zI (w9 : Int))), (3, .ref v), (0, .ref o), (1, .ref b), (2, .null)] [.int (zI (bz ((0 : Int) = 0)))]
  refine v_bif_eq X dJ0_init_db425_19 22 41 rfl (by decide) (fun c_1 => ?_) (fun c_1 => ?_)
  · skip
    exfalso; omega
  · skip
    refine v_aload_n X dJ0_init_db425_22 23 rfl 2 rfl ?_
    refine v_iconst X dJ0_init_db425_23 24 rfl ?_
    refine v_putF X hM h_so ftJ0 0 rfl rfl 1 (by decide) kf_J0_15 (fun _ h => h) rfl hnm rfl rfl rfl (Nat.le_of_ble_eq_true rfl) (Or.inl (fsH (by omega) (by omega))) dJ0_init_db425_24 27 rfl (ws' := [(o, .inr (0, [.null, .int (zI 0), .int (zI 0), .int (zI 0)]))]) rfl (fun H2 lo2 hzz hM hF h_so => ?_)
    replace hz : H2.size = o + 1 := hzz.trans hz
    clear hzz
    replace h_sb := h_sb.kept hF 1 rfl (fsd (by omega))
    replace h_sa := h_sa.kept hF 1 rfl (fsd (by omega))
    refine v_aload_n X dJ0_init_db425_27 28 rfl 2 rfl ?_
    refine v_aload_n X dJ0_init_db425_28 29 rfl 1 rfl ?_
    refine v_iconst X dJ0_init_db425_29 30 rfl ?_
    refine v_iload X dJ0_init_db425_30 32 rfl 0 rfl ?_
    refine v_muS X hM (c_J7_cpr l E v N f w9 (o + 1) m1 N1 hf) kvJ7_copyOfRange_39247 ksJ7_copyOfRange_39247 kl_J0_54 (As := [.ref v, .int (zI 0), .int (zI (w9 : Int))]) rfl rfl rfl dJ0_init_db425_32 35 rfl (k' := 1) (n' := 70) rfl rfl (fun q hq => hq.elim) ⟨h_sa, (by omega)⟩ (fun rv H3 lo3 hM hF hpo => ?_)
    obtain ⟨f1_4, rfl, hp_f_5, hp_f_6, hp_f_7, hz9⟩ := hpo
    clear hz
    have hz := hz9; clear hz9
    replace hz : H3.size = o + 2 := hz
    replace h_so := h_so.kept hF 1 rfl (fun q _ _ h => h.elim)
    replace h_sb := h_sb.kept hF 1 rfl (fun q _ _ h => h.elim)
    replace h_sa := h_sa.kept hF 1 rfl (fun q _ _ h => h.elim)
    show V p l e (rmL 3 1 70) s m args below meth cd Q 5 H3 lo3 1 70 35 [(4, .int (zI (w9 : Int))), (3, .ref v), (0, .ref o), (1, .ref b), (2, .null)] [.ref (o + 1), .ref o]
    have h_ng := hp_f_7
    refine v_putF X hM h_so ftJ0 0 rfl rfl 0 (by decide) kf_J0_9 (fun _ h => h) rfl hnm rfl rfl rfl (Nat.le_of_ble_eq_true rfl) (Or.inl (fsH (by omega) (by omega))) dJ0_init_db425_35 38 rfl (ws' := [(o, .inr (0, [.ref (o + 1), .int (zI 0), .int (zI 0), .int (zI 0)]))]) rfl (fun H8 lo8 hzz hM hF h_so => ?_)
    replace hz : H8.size = o + 2 := hzz.trans hz
    clear hzz
    replace h_sb := h_sb.kept hF 1 rfl (fsd (by omega))
    replace h_sa := h_sa.kept hF 1 rfl (fsd (by omega))
    replace h_ng := h_ng.kept hF 1 rfl (fsd (by omega))
    refine v_goto X dJ0_init_db425_38 97 (by decide) ?_
    subst hQ; exact m_vret X hr hlk hM dJ0_init_db425_97 rfl ⟨f1_4, rfl, (by exact hp_f_5), (by exact hp_f_6), (by exact h_ng), h_so, (by omega)⟩
set_option maxHeartbeats 4000000 in
set_option maxRecDepth 20000 in
theorem c_J0_initB (l : Launch) (E : Nat → Nat → Nat) (o : Nat) (b : Nat) (v : Nat) (N : Nat) (f : Int → Int) (ml : Int) (w9 : Nat) (m1 : w9 ≤ N) (N1 : N ≤ 70) (hf : ∀ j : Int, 0 ≤ f j ∧ f j < 128) (hd_so_sb : o + 1 ≤ b ∨ b + 1 ≤ o) (hd_so_sa : o + 1 ≤ v ∨ v + 1 ≤ o) : Mu l yJ0_init_81219 cJ0_init_81219 2 none 4 1 70 E [(o, 1)] [.ref o, .ref b] (fun H => PR E o [(o, .inr (0, [.null, .int (zI 0), .int (zI 0), .int (zI 0)]))] H ∧ PR E b [(b, .inr (1, [.ref v, .int (zI 0), .int (zI ml), .int (zI (w9 : Int))]))] H ∧ PR E v [(v, .inl (E 102 2, N, .inl (zA f)))] H ∧ H.size = o + 1) (fun rv H => ∃ f1 : Int → Int, rv = none ∧ (∀ j : Int, 0 ≤ j ∧ j < (w9 : Int) → f1 j = f j) ∧ (∀ j : Int, 0 ≤ f1 j ∧ f1 j < 128) ∧ PR E (o + 1) [(o + 1, .inl (E 102 2, w9, .inl (zA f1)))] H ∧ PR E o [(o, .inr (0, [.ref (o + 1), .int (zI 0), .int (zI 0), .int (zI 0)]))] H ∧ H.size = o + 2) := by
  refine Mu.start (own := RJ0) rfl (by decide +kernel) (Nat.le_of_ble_eq_true rfl) ?_
  intro p e s m below meth cd args Q hQ X hr hlk hnm hM hPr
  obtain ⟨h_so, h_sb, h_sa, hz⟩ := hPr
  have hz0 := hz
  have hvs : v < s.heap.size := (h_sa.1 0 _ rfl).lt
  have hbs : b < s.heap.size := (h_sb.1 0 _ rfl).lt
  refine v_aload_n X dJ0_init_81219_0 1 rfl 0 rfl ?_
  refine v_aload_n X dJ0_init_81219_1 2 rfl 1 rfl ?_
  refine v_null X dJ0_init_81219_2 3 rfl ?_
  refine v_muI X hM (c_J0_initA l E o b v N f ml w9 m1 N1 hf hd_so_sb hd_so_sa) rfl kvJ0_init_db425 kiiJ0_init_db425 rfl kl_J0_489 (As := [.ref b, .null]) rfl rfl rfl dJ0_init_81219_3 6 rfl (k' := 1) (n' := 70) rfl rfl (fsI (fun q q1 q2 => (Or.inl (fsH (by omega) (by omega))))) ⟨h_so, h_sb, h_sa, (by omega)⟩ (fun rv H1 lo1 hM hF hpo => ?_)
  obtain ⟨f1_2, rfl, hp_f_3, hp_f_4, hp_f_5, hw_0, hz9⟩ := hpo
  clear hz
  have hz := hz9; clear hz9
  replace hz : H1.size = o + 2 := hz
  have h_so : PR E o [(o, .inr (0, [.ref (o + 1), .int (zI 0), .int (zI 0), .int (zI 0)]))] H1 := hw_0
  replace h_sb := h_sb.kept hF 1 rfl (fsd (by omega))
  replace h_sa := h_sa.kept hF 1 rfl (fsd (by omega))
  show V p l e (rmL 4 1 70) s m args below meth cd Q 2 H1 lo1 1 70 6 [(0, .ref o), (1, .ref b)] []
  subst hQ; exact m_vret X hr hlk hM dJ0_init_81219_6 rfl ⟨f1_2, rfl, (by exact hp_f_3), (by exact hp_f_4), (by exact hp_f_5), h_so, (by omega)⟩
set_option maxHeartbeats 4000000 in
set_option maxRecDepth 20000 in
theorem c_J4_toString (l : Launch) (E : Nat → Nat → Nat) (b : Nat) (v : Nat) (N : Nat) (f : Int → Int) (ml : Int) (w9 : Nat) (z : Nat) (m1 : w9 ≤ N) (N1 : N ≤ 70) (hf : ∀ j : Int, 0 ≤ f j ∧ f j < 128) : Mu l yJ4_toString_0e30d cJ4_toString_0e30d 1 (some (.object "java/lang/String")) 5 2 74 E [] [.ref b] (fun H => PR E b [(b, .inr (1, [.ref v, .int (zI 0), .int (zI ml), .int (zI (w9 : Int))]))] H ∧ PR E v [(v, .inl (E 102 2, N, .inl (zA f)))] H ∧ H.size = z) (fun rv H => ∃ f1 : Int → Int, rv = some (.ref z) ∧ (∀ j : Int, 0 ≤ j ∧ j < (w9 : Int) → f1 j = f j) ∧ (∀ j : Int, 0 ≤ f1 j ∧ f1 j < 128) ∧ PR E z [(z, .inr (0, [.ref (z + 1), .int (zI 0), .int (zI 0), .int (zI 0)])), (z + 1, .inl (E 102 2, w9, .inl (zA f1)))] H ∧ H.size = z + 2) := by
  refine Mu.start (own := RJ4) rfl (by decide +kernel) (Nat.le_of_ble_eq_true rfl) ?_
  intro p e s m below meth cd args Q hQ X hr hlk hnm hM hPr
  obtain ⟨h_sb, h_sa, hz⟩ := hPr
  have hz0 := hz
  have hvs : v < s.heap.size := (h_sa.1 0 _ rfl).lt
  have hbs : b < s.heap.size := (h_sb.1 0 _ rfl).lt
  refine v_new (ci := 0) X hM ftJ0 kc_J4_18 kins_J0 kini_java_lang_String rfl dfJ0 rfl dJ4_toString_0e30d_0 3 rfl (k' := 1) (n' := 4) rfl rfl (fun o H1 ho hz1 hM hF h_new => ?_)
  obtain rfl : z = o := (ho.trans hz).symm
  replace hz : H1.size = z + 1 := hz1
  clear ho hz1
  have h_n_2 : PR E z [(z, .inr (0, [.null, .int 0, .int 0, .int 0]))] H1 := h_new
  replace h_sb := h_sb.kept hF 1 rfl (fun q _ _ h => h.elim)
  replace h_sa := h_sa.kept hF 1 rfl (fun q _ _ h => h.elim)
  refine v_dup X dJ4_toString_0e30d_3 4 rfl rfl ?_
  refine v_aload_n X dJ4_toString_0e30d_4 5 rfl 0 rfl ?_
  refine v_muI X hM (c_J0_initB l E z b v N f ml w9 m1 N1 hf (by omega) (by omega)) rfl kvJ0_init_81219 kiiJ0_init_81219 rfl kl_J4_137 (As := [.ref b]) rfl rfl rfl dJ4_toString_0e30d_5 8 rfl (k' := 2) (n' := 74) rfl rfl (fsI (fun q q1 q2 => (Or.inr (by omega)))) ⟨h_n_2, h_sb, h_sa, (by omega)⟩ (fun rv H3 lo3 hM hF hpo => ?_)
  obtain ⟨f1_4, rfl, hp_f_5, hp_f_6, hp_f_7, hw_0, hz9⟩ := hpo
  clear hz
  have hz := hz9; clear hz9
  replace hz : H3.size = z + 2 := hz
  have h_n_2 : PR E z [(z, .inr (0, [.ref (z + 1), .int (zI 0), .int (zI 0), .int (zI 0)]))] H3 := hw_0
  replace h_sb := h_sb.kept hF 1 rfl (fsd (by omega))
  replace h_sa := h_sa.kept hF 1 rfl (fsd (by omega))
  show V p l e (rmL 5 2 74) s m args below meth cd Q 1 H3 lo3 2 74 8 [(0, .ref b)] [.ref z]
  subst hQ; exact m_aret X hr (Or.inl ⟨_, rfl⟩) hlk hM dJ4_toString_0e30d_8 rfl (Or.inr ⟨_, rfl⟩) ⟨f1_4, rfl, (by exact hp_f_5), (by exact hp_f_6), (by exact h_n_2.app2 1 rfl rfl hp_f_7 rfl), (by omega)⟩
