set_option maxHeartbeats 4000000 in
set_option maxRecDepth 20000 in
theorem c_J6_stringSize_1 (l : Launch) (E : Nat → Nat → Nat) (x : Int) (x0 : 0 ≤ x) (x1 : x < 10) : Rd l yJ6_stringSize_0f7a4 cJ6_stringSize_0f7a4 4 (some .int) 0 E [.int (zI x)] ([]) (some (.int (zI 1))) := by
  refine Rd.start (own := RJ6) rfl (by decide +kernel) (Nat.le_of_ble_eq_true rfl) ?_
  intro p e s m below meth cd args Q hQ X hr hlk hC hP
  refine v_iconst X dJ6_stringSize_0f7a4_0 1 rfl ?_
  refine v_istore_n X dJ6_stringSize_0f7a4_1 2 rfl rfl (by decide) (L' := [(1, .int (zI 1)), (0, .int (zI x))]) rfl ?_
  refine v_iload_n X dJ6_stringSize_0f7a4_2 3 rfl 1 rfl ?_
  refine v_if_lt X (by omega) dJ6_stringSize_0f7a4_3 6 11 rfl (by decide) (fun c_1 => ?_) (fun c_1 => ?_)
  · skip
    exfalso; omega
  · skip
    refine v_iconst X dJ6_stringSize_0f7a4_6 7 rfl ?_
    refine v_istore_n X dJ6_stringSize_0f7a4_7 8 rfl rfl (by decide) (L' := [(1, .int (zI 0)), (0, .int (zI x))]) rfl ?_
    refine v_iload_n X dJ6_stringSize_0f7a4_8 9 rfl 1 rfl ?_
    refine v_ineg X dJ6_stringSize_0f7a4_9 10 rfl ?_
    refine v_istore_n X dJ6_stringSize_0f7a4_10 11 rfl rfl (by decide) (L' := [(0, .int (zI (-x))), (1, .int (zI 0))]) rfl ?_
    refine v_bipush X dJ6_stringSize_0f7a4_11 13 rfl rfl ?_
    refine v_istore_n X dJ6_stringSize_0f7a4_13 14 rfl rfl (by decide) (L' := [(2, .int (zI (-10))), (0, .int (zI (-x))), (1, .int (zI 0))]) rfl ?_
    refine v_iconst X dJ6_stringSize_0f7a4_14 15 rfl ?_
    refine v_istore_n X dJ6_stringSize_0f7a4_15 16 rfl rfl (by decide) (L' := [(3, .int (zI 1)), (2, .int (zI (-10))), (0, .int (zI (-x))), (1, .int (zI 0))]) rfl ?_
    refine v_iload_n X dJ6_stringSize_0f7a4_16 17 rfl 0 rfl ?_
    refine v_bipush X dJ6_stringSize_0f7a4_17 19 rfl rfl ?_
    refine v_icmp_ge X (by omega) (by omega) dJ6_stringSize_0f7a4_19 22 42 rfl (by decide) (fun c_2 => ?_) (fun c_2 => ?_)
    · skip
      exfalso; omega
    · skip
      refine v_iload_n X dJ6_stringSize_0f7a4_22 23 rfl 2 rfl ?_
      refine v_iload_n X dJ6_stringSize_0f7a4_23 24 rfl 1 rfl ?_
      refine v_icmp_le X (by omega) (by omega) dJ6_stringSize_0f7a4_24 27 31 rfl (by decide) (fun c_3 => ?_) (fun c_3 => ?_)
      · skip
        exfalso; omega
      · skip
        refine v_iload_n X dJ6_stringSize_0f7a4_27 28 rfl 0 rfl ?_
        refine v_iload_n X dJ6_stringSize_0f7a4_28 29 rfl 3 rfl ?_
        refine v_iadd X dJ6_stringSize_0f7a4_29 30 rfl ?_
        subst hQ; exact v_iret0 X hr hlk dJ6_stringSize_0f7a4_30 (by omega)
set_option maxHeartbeats 4000000 in
set_option maxRecDepth 20000 in
theorem c_J6_stringSize_2 (l : Launch) (E : Nat → Nat → Nat) (x : Int) (x0 : 10 ≤ x) (x1 : x < 100) : Rd l yJ6_stringSize_0f7a4 cJ6_stringSize_0f7a4 4 (some .int) 0 E [.int (zI x)] ([]) (some (.int (zI 2))) := by
  refine Rd.start (own := RJ6) rfl (by decide +kernel) (Nat.le_of_ble_eq_true rfl) ?_
  intro p e s m below meth cd args Q hQ X hr hlk hC hP
  refine v_iconst X dJ6_stringSize_0f7a4_0 1 rfl ?_
  refine v_istore_n X dJ6_stringSize_0f7a4_1 2 rfl rfl (by decide) (L' := [(1, .int (zI 1)), (0, .int (zI x))]) rfl ?_
  refine v_iload_n X dJ6_stringSize_0f7a4_2 3 rfl 1 rfl ?_
  refine v_if_lt X (by omega) dJ6_stringSize_0f7a4_3 6 11 rfl (by decide) (fun c_1 => ?_) (fun c_1 => ?_)
  · skip
    exfalso; omega
  · skip
    refine v_iconst X dJ6_stringSize_0f7a4_6 7 rfl ?_
    refine v_istore_n X dJ6_stringSize_0f7a4_7 8 rfl rfl (by decide) (L' := [(1, .int (zI 0)), (0, .int (zI x))]) rfl ?_
    refine v_iload_n X dJ6_stringSize_0f7a4_8 9 rfl 1 rfl ?_
    refine v_ineg X dJ6_stringSize_0f7a4_9 10 rfl ?_
    refine v_istore_n X dJ6_stringSize_0f7a4_10 11 rfl rfl (by decide) (L' := [(0, .int (zI (-x))), (1, .int (zI 0))]) rfl ?_
    refine v_bipush X dJ6_stringSize_0f7a4_11 13 rfl rfl ?_
    refine v_istore_n X dJ6_stringSize_0f7a4_13 14 rfl rfl (by decide) (L' := [(2, .int (zI (-10))), (0, .int (zI (-x))), (1, .int (zI 0))]) rfl ?_
    refine v_iconst X dJ6_stringSize_0f7a4_14 15 rfl ?_
    refine v_istore_n X dJ6_stringSize_0f7a4_15 16 rfl rfl (by decide) (L' := [(3, .int (zI 1)), (2, .int (zI (-10))), (0, .int (zI (-x))), (1, .int (zI 0))]) rfl ?_
    refine v_iload_n X dJ6_stringSize_0f7a4_16 17 rfl 0 rfl ?_
    refine v_bipush X dJ6_stringSize_0f7a4_17 19 rfl rfl ?_
    refine v_icmp_ge X (by omega) (by omega) dJ6_stringSize_0f7a4_19 22 42 rfl (by decide) (fun c_2 => ?_) (fun c_2 => ?_)
    · skip
      exfalso; omega
    · skip
      refine v_iload_n X dJ6_stringSize_0f7a4_22 23 rfl 2 rfl ?_
      refine v_iload_n X dJ6_stringSize_0f7a4_23 24 rfl 1 rfl ?_
      refine v_icmp_le X (by omega) (by omega) dJ6_stringSize_0f7a4_24 27 31 rfl (by decide) (fun c_3 => ?_) (fun c_3 => ?_)
      · skip
        refine v_bipush X dJ6_stringSize_0f7a4_31 33 rfl rfl ?_
        refine v_iload_n X dJ6_stringSize_0f7a4_33 34 rfl 1 rfl ?_
        refine v_imul X dJ6_stringSize_0f7a4_34 35 rfl ?_
        refine v_istore_n X dJ6_stringSize_0f7a4_35 36 rfl rfl (by decide) (L' := [(2, .int (zI (10 * (-10)))), (3, .int (zI 1)), (0, .int (zI (-x))), (1, .int (zI 0))]) rfl ?_
        refine v_iinc X dJ6_stringSize_0f7a4_36 39 rfl 1 rfl (by decide) (L' := [(3, .int (zI (1 + 1))), (2, .int (zI (10 * (-10)))), (0, .int (zI (-x))), (1, .int (zI 0))]) rfl ?_
        refine v_goto X dJ6_stringSize_0f7a4_39 16 (by decide) ?_
        refine v_iload_n X dJ6_stringSize_0f7a4_16 17 rfl 0 rfl ?_
        refine v_bipush X dJ6_stringSize_0f7a4_17 19 rfl rfl ?_
        refine v_icmp_ge X (by omega) (by omega) dJ6_stringSize_0f7a4_19 22 42 rfl (by decide) (fun c_4 => ?_) (fun c_4 => ?_)
        · skip
          refine v_bipush X dJ6_stringSize_0f7a4_42 44 rfl rfl ?_
          refine v_iload_n X dJ6_stringSize_0f7a4_44 45 rfl 3 rfl ?_
          refine v_iadd X dJ6_stringSize_0f7a4_45 46 rfl ?_
          subst hQ; exact v_iret0 X hr hlk dJ6_stringSize_0f7a4_46 (by omega)
        · skip
          refine v_iload_n X dJ6_stringSize_0f7a4_22 23 rfl 2 rfl ?_
          refine v_iload_n X dJ6_stringSize_0f7a4_23 24 rfl 1 rfl ?_
          refine v_icmp_le X (by omega) (by omega) dJ6_stringSize_0f7a4_24 27 31 rfl (by decide) (fun c_5 => ?_) (fun c_5 => ?_)
          · skip
            exfalso; omega
          · skip
            refine v_iload_n X dJ6_stringSize_0f7a4_27 28 rfl 0 rfl ?_
            refine v_iload_n X dJ6_stringSize_0f7a4_28 29 rfl 3 rfl ?_
            refine v_iadd X dJ6_stringSize_0f7a4_29 30 rfl ?_
            subst hQ; exact v_iret0 X hr hlk dJ6_stringSize_0f7a4_30 (by omega)
      · skip
        exfalso; omega
set_option maxHeartbeats 4000000 in
set_option maxRecDepth 20000 in
theorem c_J6_getChars_1 (l : Launch) (E : Nat → Nat → Nat) (v : Nat) (N : Nat) (f : Int → Int) (x : Int) (q : Int) (x0 : 0 ≤ x) (x1 : x < 10) (q0 : 1 ≤ q) (q1 : q ≤ (N : Int)) (q2 : N < 1000) : Mu l yJ6_getChars_ba4f3 cJ6_getChars_ba4f3 7 (some .int) 0 0 0 E [(v, 1)] [.int (zI x), .int (zI q), .ref v] (fun H => PR E v [(v, .inl (E 102 2, N, .inl (zA f)))] H) (fun rv H => rv = some (.int (zI (q - 1))) ∧ PR E v [(v, .inl (E 102 2, N, .inl (zA (updZ f (q + (-1)) (48 + x)))))] H) := by
  refine Mu.start (own := RJ6) rfl (by decide +kernel) (Nat.le_of_ble_eq_true rfl) ?_
  intro p e s m below meth cd args Q hQ X hr hlk hnm hM hPr
  have h_sa := hPr
  refine v_iload_n X dJ6_getChars_ba4f3_0 1 rfl 1 rfl ?_
  refine v_istore X dJ6_getChars_ba4f3_1 3 rfl (by decide) (L' := [(5, .int (zI q)), (0, .int (zI x)), (1, .int (zI q)), (2, .ref v)]) rfl ?_
  refine v_iload_n X dJ6_getChars_ba4f3_3 4 rfl 1 rfl ?_
  refine v_if_ge X (by omega) dJ6_getChars_ba4f3_4 7 11 rfl (by decide) (fun c_1 => ?_) (fun c_1 => ?_)
  · skip
    refine v_iconst X dJ6_getChars_ba4f3_11 12 rfl ?_
    refine v_istore X dJ6_getChars_ba4f3_12 14 rfl (by decide) (L' := [(6, .int (zI 0)), (5, .int (zI q)), (0, .int (zI x)), (1, .int (zI q)), (2, .ref v)]) rfl ?_
    refine v_iload X dJ6_getChars_ba4f3_14 16 rfl 0 rfl ?_
    refine v_if_ne X (by omega) dJ6_getChars_ba4f3_16 19 22 rfl (by decide) (fun c_2 => ?_) (fun c_2 => ?_)
    · skip
      exfalso; omega
    · skip
      refine v_iload_n X dJ6_getChars_ba4f3_19 20 rfl 2 rfl ?_
      refine v_ineg X dJ6_getChars_ba4f3_20 21 rfl ?_
      refine v_istore_n X dJ6_getChars_ba4f3_21 22 rfl rfl (by decide) (L' := [(0, .int (zI (-x))), (6, .int (zI 0)), (5, .int (zI q)), (1, .int (zI q)), (2, .ref v)]) rfl ?_
      refine v_iload_n X dJ6_getChars_ba4f3_22 23 rfl 0 rfl ?_
      refine v_bipush X dJ6_getChars_ba4f3_23 25 rfl rfl ?_
      refine v_icmp_gt X (by omega) (by omega) dJ6_getChars_ba4f3_25 28 72 rfl (by decide) (fun c_3 => ?_) (fun c_3 => ?_)
      · skip
        refine v_aload_n X dJ6_getChars_ba4f3_72 73 rfl 4 rfl ?_
        refine v_iinc X dJ6_getChars_ba4f3_73 76 rfl 2 rfl (by decide) (L' := [(5, .int (zI (q + (-1)))), (0, .int (zI (-x))), (6, .int (zI 0)), (1, .int (zI q)), (2, .ref v)]) rfl ?_
        refine v_iload X dJ6_getChars_ba4f3_76 78 rfl 0 rfl ?_
        refine v_dgs X hM.C 0 (by decide) rfl kf_J6_83 dJ6_getChars_ba4f3_78 81 rfl ?_
        refine v_iload_n X dJ6_getChars_ba4f3_81 82 rfl 1 rfl ?_
        refine v_ineg X dJ6_getChars_ba4f3_82 83 rfl ?_
        refine v_dgl X hM.C 0 (by decide) (by omega) (by omega) dJ6_getChars_ba4f3_83 84 rfl (w := 48 + x) (by first | (rw [if_pos rfl]; omega) | (rw [if_neg (by decide)]; omega)) ?_
        refine v_bast X hM h_sa 0 rfl (by omega) (by omega) (by omega) (lat_nb (by omega)) (Or.inl (fsH (by omega) (by omega))) dJ6_getChars_ba4f3_84 85 rfl (ws' := [(v, .inl (E 102 2, N, .inl (zA (updZ f (q + (-1)) (48 + x)))))]) rfl (fun H4 lo4 hzz hM hF h_sa => ?_)
        clear hzz
        refine v_iload_n X dJ6_getChars_ba4f3_85 86 rfl 1 rfl ?_
        refine v_bipush X dJ6_getChars_ba4f3_86 88 rfl rfl ?_
        refine v_icmp_ge X (by omega) (by omega) dJ6_getChars_ba4f3_88 91 104 rfl (by decide) (fun c_5 => ?_) (fun c_5 => ?_)
        · skip
          refine v_iload X dJ6_getChars_ba4f3_104 106 rfl 2 rfl ?_
          refine v_if_eq X (by omega) dJ6_getChars_ba4f3_106 109 118 rfl (by decide) (fun c_6 => ?_) (fun c_6 => ?_)
          · skip
            refine v_iload X dJ6_getChars_ba4f3_118 120 rfl 0 rfl ?_
            subst hQ; exact m_iret X hr hlk hM dJ6_getChars_ba4f3_120 rfl ⟨(sv (by omega)), h_sa⟩
          · skip
            exfalso; omega
        · skip
          exfalso; omega
      · skip
        exfalso; omega
  · skip
    exfalso; omega
set_option maxHeartbeats 4000000 in
set_option maxRecDepth 20000 in
theorem c_J6_getChars_2 (l : Launch) (E : Nat → Nat → Nat) (v : Nat) (N : Nat) (f : Int → Int) (x : Int) (q : Int) (x0 : 10 ≤ x) (x1 : x < 100) (q0 : 2 ≤ q) (q1 : q ≤ (N : Int)) (q2 : N < 1000) : Mu l yJ6_getChars_ba4f3 cJ6_getChars_ba4f3 7 (some .int) 0 0 0 E [(v, 1)] [.int (zI x), .int (zI q), .ref v] (fun H => PR E v [(v, .inl (E 102 2, N, .inl (zA f)))] H) (fun rv H => rv = some (.int (zI (q - 2))) ∧ PR E v [(v, .inl (E 102 2, N, .inl (zA (updZ (updZ f (q + (-1)) (48 + x % 10)) (q + (-1) + (-1)) (48 + x / 10)))))] H) := by
  refine Mu.start (own := RJ6) rfl (by decide +kernel) (Nat.le_of_ble_eq_true rfl) ?_
  intro p e s m below meth cd args Q hQ X hr hlk hnm hM hPr
  have h_sa := hPr
  refine v_iload_n X dJ6_getChars_ba4f3_0 1 rfl 1 rfl ?_
  refine v_istore X dJ6_getChars_ba4f3_1 3 rfl (by decide) (L' := [(5, .int (zI q)), (0, .int (zI x)), (1, .int (zI q)), (2, .ref v)]) rfl ?_
  refine v_iload_n X dJ6_getChars_ba4f3_3 4 rfl 1 rfl ?_
  refine v_if_ge X (by omega) dJ6_getChars_ba4f3_4 7 11 rfl (by decide) (fun c_1 => ?_) (fun c_1 => ?_)
  · skip
    refine v_iconst X dJ6_getChars_ba4f3_11 12 rfl ?_
    refine v_istore X dJ6_getChars_ba4f3_12 14 rfl (by decide) (L' := [(6, .int (zI 0)), (5, .int (zI q)), (0, .int (zI x)), (1, .int (zI q)), (2, .ref v)]) rfl ?_
    refine v_iload X dJ6_getChars_ba4f3_14 16 rfl 0 rfl ?_
    refine v_if_ne X (by omega) dJ6_getChars_ba4f3_16 19 22 rfl (by decide) (fun c_2 => ?_) (fun c_2 => ?_)
    · skip
      exfalso; omega
    · skip
      refine v_iload_n X dJ6_getChars_ba4f3_19 20 rfl 2 rfl ?_
      refine v_ineg X dJ6_getChars_ba4f3_20 21 rfl ?_
      refine v_istore_n X dJ6_getChars_ba4f3_21 22 rfl rfl (by decide) (L' := [(0, .int (zI (-x))), (6, .int (zI 0)), (5, .int (zI q)), (1, .int (zI q)), (2, .ref v)]) rfl ?_
      refine v_iload_n X dJ6_getChars_ba4f3_22 23 rfl 0 rfl ?_
      refine v_bipush X dJ6_getChars_ba4f3_23 25 rfl rfl ?_
      refine v_icmp_gt X (by omega) (by omega) dJ6_getChars_ba4f3_25 28 72 rfl (by decide) (fun c_3 => ?_) (fun c_3 => ?_)
      · skip
        refine v_aload_n X dJ6_getChars_ba4f3_72 73 rfl 4 rfl ?_
        refine v_iinc X dJ6_getChars_ba4f3_73 76 rfl 2 rfl (by decide) (L' := [(5, .int (zI (q + (-1)))), (0, .int (zI (-x))), (6, .int (zI 0)), (1, .int (zI q)), (2, .ref v)]) rfl ?_
        refine v_iload X dJ6_getChars_ba4f3_76 78 rfl 0 rfl ?_
        refine v_dgs X hM.C 0 (by decide) rfl kf_J6_83 dJ6_getChars_ba4f3_78 81 rfl ?_
        refine v_iload_n X dJ6_getChars_ba4f3_81 82 rfl 1 rfl ?_
        refine v_ineg X dJ6_getChars_ba4f3_82 83 rfl ?_
        refine v_dgl X hM.C 0 (by decide) (by omega) (by omega) dJ6_getChars_ba4f3_83 84 rfl (w := 48 + x % 10) (by first | (rw [if_pos rfl]; omega) | (rw [if_neg (by decide)]; omega)) ?_
        refine v_bast X hM h_sa 0 rfl (by omega) (by omega) (by omega) (lat_nb (by omega)) (Or.inl (fsH (by omega) (by omega))) dJ6_getChars_ba4f3_84 85 rfl (ws' := [(v, .inl (E 102 2, N, .inl (zA (updZ f (q + (-1)) (48 + x % 10)))))]) rfl (fun H4 lo4 hzz hM hF h_sa => ?_)
        clear hzz
        refine v_iload_n X dJ6_getChars_ba4f3_85 86 rfl 1 rfl ?_
        refine v_bipush X dJ6_getChars_ba4f3_86 88 rfl rfl ?_
        refine v_icmp_ge X (by omega) (by omega) dJ6_getChars_ba4f3_88 91 104 rfl (by decide) (fun c_5 => ?_) (fun c_5 => ?_)
        · skip
          exfalso; omega
        · skip
          refine v_aload_n X dJ6_getChars_ba4f3_91 92 rfl 4 rfl ?_
          refine v_iinc X dJ6_getChars_ba4f3_92 95 rfl 0 rfl (by decide) (L' := [(5, .int (zI (q + (-1) + (-1)))), (0, .int (zI (-x))), (6, .int (zI 0)), (1, .int (zI q)), (2, .ref v)]) rfl ?_
          refine v_iload X dJ6_getChars_ba4f3_95 97 rfl 0 rfl ?_
          refine v_dgs X hM.C 1 (by decide) rfl kf_J6_87 dJ6_getChars_ba4f3_97 100 rfl ?_
          refine v_iload_n X dJ6_getChars_ba4f3_100 101 rfl 1 rfl ?_
          refine v_ineg X dJ6_getChars_ba4f3_101 102 rfl ?_
          refine v_dgl X hM.C 1 (by decide) (by omega) (by omega) dJ6_getChars_ba4f3_102 103 rfl (w := 48 + x / 10) (by first | (rw [if_pos rfl]; omega) | (rw [if_neg (by decide)]; omega)) ?_
          refine v_bast X hM h_sa 0 rfl (by omega) (by omega) (by omega) (lat_nb (by omega)) (Or.inl (fsH (by omega) (by omega))) dJ6_getChars_ba4f3_103 104 rfl (ws' := [(v, .inl (E 102 2, N, .inl (zA (updZ (updZ f (q + (-1)) (48 + x % 10)) (q + (-1) + (-1)) (48 + x / 10)))))]) rfl (fun H6 lo6 hzz hM hF h_sa => ?_)
          clear hzz
          refine v_iload X dJ6_getChars_ba4f3_104 106 rfl 2 rfl ?_
          refine v_if_eq X (by omega) dJ6_getChars_ba4f3_106 109 118 rfl (by decide) (fun c_7 => ?_) (fun c_7 => ?_)
          · skip
            refine v_iload X dJ6_getChars_ba4f3_118 120 rfl 0 rfl ?_
            subst hQ; exact m_iret X hr hlk hM dJ6_getChars_ba4f3_120 rfl ⟨(sv (by omega)), h_sa⟩
          · skip
            exfalso; omega
      · skip
        exfalso; omega
  · skip
    exfalso; omega
set_option maxHeartbeats 4000000 in
set_option maxRecDepth 20000 in
theorem c_J5_appendI_1 (l : Launch) (E : Nat → Nat → Nat) (b : Nat) (v : Nat) (N : Nat) (f : Int → Int) (ml : Int) (n : Int) (z : Nat) (x : Int) (x0 : 0 ≤ x) (x1 : x < 10) (n0 : 0 ≤ n) (n1 : n ≤ (N : Int)) (n2 : n < 68) (hN : N = 16 ∨ N = 34 ∨ N = 70) (hf : ∀ j : Int, 0 ≤ f j ∧ f j < 128) (hbz : b < z) (hd_sb_sa : b + 1 ≤ v ∨ v + 1 ≤ b) : Mu l yJ5_append_c97b9 cJ5_append_c97b9 4 (some (.object "java/lang/AbstractStringBuilder")) 4 1 70 E [(b, 1), (v, 1)] [.ref b, .int (zI x)] (fun H => PR E b [(b, .inr (1, [.ref v, .int (zI 0), .int (zI ml), .int (zI n)]))] H ∧ PR E v [(v, .inl (E 102 2, N, .inl (zA f)))] H ∧ z ≤ H.size) (fun rv H => ∃ v1 : Nat, ∃ N1 : Nat, ∃ f1 : Int → Int, rv = some (.ref b) ∧ (v1 = v ∨ z ≤ v1) ∧ (N1 = 16 ∨ N1 = 34 ∨ N1 = 70) ∧ n + 1 ≤ (N1 : Int) ∧ (∀ j : Int, 0 ≤ j ∧ j < n → f1 j = f j) ∧ f1 n = 48 + x ∧ (∀ j : Int, 0 ≤ f1 j ∧ f1 j < 128) ∧ PR E b [(b, .inr (1, [.ref v1, .int (zI 0), .int (zI ml), .int (zI (n + 1))]))] H ∧ PR E v1 [(v1, .inl (E 102 2, N1, .inl (zA f1)))] H) := by
  refine Mu.start (own := RJ5) rfl (by decide +kernel) (Nat.le_of_ble_eq_true rfl) ?_
  intro p e s m below meth cd args Q hQ X hr hlk hnm hM hPr
  obtain ⟨h_sb, h_sa, hzl⟩ := hPr
  have hz : s.heap.size = s.heap.size := rfl
  have hzl0 := hzl
  have hbs : b < s.heap.size := (h_sb.1 0 _ rfl).lt
  refine v_aload_n X dJ5_append_c97b9_0 1 rfl 0 rfl ?_
  refine v_getf X hM.C h_sb.1 inJ4 0 rfl rfl 3 (by decide) kf_J5_79 (fun _ h => h) rfl dJ5_append_c97b9_1 4 rfl ?_
  show V p l e (rmL 4 1 70) s m args below meth cd Q 4 s.heap [] 0 0 4 [(0, .ref b), (1, .int (zI x))] [.int (zI n)]
  refine v_istore_n X dJ5_append_c97b9_4 5 rfl rfl (by decide) (L' := [(2, .int (zI n)), (0, .ref b), (1, .int (zI x))]) rfl ?_
  refine v_iload_n X dJ5_append_c97b9_5 6 rfl 0 rfl ?_
  refine v_iload_n X dJ5_append_c97b9_6 7 rfl 2 rfl ?_
  refine v_rdS X hM.C (ws0 E s.heap) (c_J6_stringSize_1 l E x x0 x1) kvJ6_stringSize_0f7a4 ksJ6_stringSize_0f7a4 kl_J5_245 (As := [.int (zI x)]) rfl rfl rfl dJ5_append_c97b9_7 10 rfl ?_
  show V p l e (rmL 4 1 70) s m args below meth cd Q 4 s.heap [] 0 0 10 [(2, .int (zI n)), (0, .ref b), (1, .int (zI x))] [.int (zI 1), .int (zI n)]
  refine v_iadd X dJ5_append_c97b9_10 11 rfl ?_
  refine v_istore_n X dJ5_append_c97b9_11 12 rfl rfl (by decide) (L' := [(3, .int (zI (n + 1))), (2, .int (zI n)), (0, .ref b), (1, .int (zI x))]) rfl ?_
  refine v_aload_n X dJ5_append_c97b9_12 13 rfl 2 rfl ?_
  refine v_iload_n X dJ5_append_c97b9_13 14 rfl 0 rfl ?_
  refine v_muU (C := RJ4) (hsel := va_Nw.use rfl (hM.C.2.2.2.1.2.2.2 _ (by simp))) X hM (h_sb.1) (c_J5_ensureCapacityInternal_d00df l E b v N f ml n s.heap.size (n + 1) hN (by omega) (by omega) (by omega) hf (by omega) hd_sb_sa) kvJ5_ensureCapacityInternal_d00df kim_J5_ensureCapacityInternal_d00df ksm_J5_ensureCapacityInternal_d00df kl_J5_100 (q0 := 0) rfl rfl (As := [.int (zI (n + 1))]) rfl rfl rfl dJ5_append_c97b9_14 17 rfl (k' := 1) (n' := 70) rfl rfl (fsI (fun q q1 q2 => (Or.inl (fsH (by omega) (by omega))))) ⟨h_sb, h_sa, (by omega)⟩ (fun rv H1 lo1 hM hF hpo => ?_)
  obtain ⟨v1_2, N1_3, f1_4, rfl, hp_f_5, hp_f_6, hp_f_7, hp_f_8, hp_f_9, hw_0, hw_1⟩ := hpo
  have h_sb : PR E b [(b, .inr (1, [.ref v1_2, .int (zI 0), .int (zI ml), .int (zI n)]))] H1 := hw_0
  have h_sa : PR E v1_2 [(v1_2, .inl (E 102 2, N1_3, .inl (zA f1_4)))] H1 := hw_1
  replace hzl := Nat.le_trans hzl hF.1
  show V p l e (rmL 4 1 70) s m args below meth cd Q 4 H1 lo1 1 70 17 [(3, .int (zI (n + 1))), (2, .int (zI n)), (0, .ref b), (1, .int (zI x))] []
  have hd9 : b + 1 ≤ v1_2 ∨ v1_2 + 1 ≤ b := by omega
  refine v_aload_n X dJ5_append_c97b9_17 18 rfl 2 rfl ?_
  refine v_rdU (C := RJ4) (hsel := X.2.2.2.2 _ ksl_J5_isLatin1_aae02) X hM.C h_sb.1 (c_J5_isLatin1_aae02 l E b v1_2 ml n) kvJ5_isLatin1_aae02 kim_J5_isLatin1_aae02 ksm_J5_isLatin1_aae02 kl_J5_83 rfl rfl (As := []) rfl rfl rfl dJ5_append_c97b9_18 21 rfl ?_
  show V p l e (rmL 4 1 70) s m args below meth cd Q 4 H1 lo1 1 70 21 [(3, .int (zI (n + 1))), (2, .int (zI n)), (0, .ref b), (1, .int (zI x))] [.int (zI (bz ((0 : Int) = 0)))]
  refine v_bif_eq X dJ5_append_c97b9_21 24 37 rfl (by decide) (fun c_10 => ?_) (fun c_10 => ?_)
  · skip
    exfalso; omega
  · skip
    refine v_iload_n X dJ5_append_c97b9_24 25 rfl 3 rfl ?_
    refine v_iload_n X dJ5_append_c97b9_25 26 rfl 0 rfl ?_
    refine v_aload_n X dJ5_append_c97b9_26 27 rfl 2 rfl ?_
    refine v_getf X hM.C h_sb.1 inJ4 0 rfl rfl 0 (by decide) kf_J5_15 (fun _ h => h) rfl dJ5_append_c97b9_27 30 rfl ?_
    refine v_muS X hM (c_J6_getChars_1 l E v1_2 N1_3 f1_4 x (n + 1) x0 x1 (by omega) hp_f_7 (by omega)) kvJ6_getChars_ba4f3 ksJ6_getChars_ba4f3 kl_J5_248 (As := [.int (zI x), .int (zI (n + 1)), .ref v1_2]) rfl rfl rfl dJ5_append_c97b9_30 33 rfl (k' := 1) (n' := 70) rfl rfl (fsI (fun q q1 q2 => fr_or1 hp_f_5 (by simp [Fs]) q1 q2)) h_sa (fun rv H11 lo11 hM hF hpo => ?_)
    obtain ⟨rfl, hw_0⟩ := hpo
    have h_sa : PR E v1_2 [(v1_2, .inl (E 102 2, N1_3, .inl (zA (updZ f1_4 ((n + 1) + (-1)) (48 + x)))))] H11 := hw_0
    replace hzl := Nat.le_trans hzl hF.1
    replace h_sb := h_sb.kept hF 1 rfl (fsd (by omega))
    show V p l e (rmL 4 1 70) s m args below meth cd Q 4 H11 lo11 1 70 33 [(3, .int (zI (n + 1))), (2, .int (zI n)), (0, .ref b), (1, .int (zI x))] [.int (zI ((n + 1) - 1))]
    refine v_pop X dJ5_append_c97b9_33 34 rfl rfl ?_
    refine v_goto X dJ5_append_c97b9_34 48 (by decide) ?_
    refine v_aload_n X dJ5_append_c97b9_48 49 rfl 2 rfl ?_
    refine v_iload_n X dJ5_append_c97b9_49 50 rfl 0 rfl ?_
    refine v_putf X hM h_sb ftJ4 0 rfl rfl 3 (by decide) kf_J5_79 (fun _ h => h) rfl rfl rfl (Nat.le_of_ble_eq_true rfl) (Or.inl (fsH (by omega) (by omega))) dJ5_append_c97b9_50 53 rfl (ws' := [(b, .inr (1, [.ref v1_2, .int (zI 0), .int (zI ml), .int (zI (n + 1))]))]) rfl (fun H12 lo12 hzz hM hF h_sb => ?_)
    clear hzz
    replace hzl := Nat.le_trans hzl hF.1
    replace h_sa := h_sa.kept hF 1 rfl (fsd (by omega))
    refine v_aload_n X dJ5_append_c97b9_53 54 rfl 2 rfl ?_
    subst hQ; exact m_aret X hr (Or.inl ⟨_, rfl⟩) hlk hM dJ5_append_c97b9_54 rfl (Or.inr ⟨_, rfl⟩) ⟨v1_2, N1_3, (updZ f1_4 ((n + 1) + (-1)) (48 + x)), rfl, (by omega), (by omega), (by omega), (by intro j hj; rw [updZ_ne _ _ (by omega)]; exact hp_f_8 j (by omega)), (by show (if n = n + 1 + (-1) then _ else _) = _; exact if_pos (by omega)), (by exact updZ_lat hp_f_9 ⟨by omega, by omega⟩), h_sb, h_sa⟩
set_option maxHeartbeats 4000000 in
set_option maxRecDepth 20000 in
theorem c_J4_appendI_1 (l : Launch) (E : Nat → Nat → Nat) (b : Nat) (v : Nat) (N : Nat) (f : Int → Int) (ml : Int) (n : Int) (z : Nat) (x : Int) (x0 : 0 ≤ x) (x1 : x < 10) (n0 : 0 ≤ n) (n1 : n ≤ (N : Int)) (n2 : n < 68) (hN : N = 16 ∨ N = 34 ∨ N = 70) (hf : ∀ j : Int, 0 ≤ f j ∧ f j < 128) (hbz : b < z) (hd_sb_sa : b + 1 ≤ v ∨ v + 1 ≤ b) : Mu l yJ4_append_bf812 cJ4_append_bf812 2 (some (.object "java/lang/StringBuilder")) 5 1 70 E [(b, 1), (v, 1)] [.ref b, .int (zI x)] (fun H => PR E b [(b, .inr (1, [.ref v, .int (zI 0), .int (zI ml), .int (zI n)]))] H ∧ PR E v [(v, .inl (E 102 2, N, .inl (zA f)))] H ∧ z ≤ H.size) (fun rv H => ∃ v1 : Nat, ∃ N1 : Nat, ∃ f1 : Int → Int, rv = some (.ref b) ∧ (v1 = v ∨ z ≤ v1) ∧ (N1 = 16 ∨ N1 = 34 ∨ N1 = 70) ∧ n + 1 ≤ (N1 : Int) ∧ (∀ j : Int, 0 ≤ j ∧ j < n → f1 j = f j) ∧ f1 n = 48 + x ∧ (∀ j : Int, 0 ≤ f1 j ∧ f1 j < 128) ∧ PR E b [(b, .inr (1, [.ref v1, .int (zI 0), .int (zI ml), .int (zI (n + 1))]))] H ∧ PR E v1 [(v1, .inl (E 102 2, N1, .inl (zA f1)))] H) := by
  refine Mu.start (own := RJ4) rfl (by decide +kernel) (Nat.le_of_ble_eq_true rfl) ?_
  intro p e s m below meth cd args Q hQ X hr hlk hnm hM hPr
  obtain ⟨h_sb, h_sa, hzl⟩ := hPr
  have hz : s.heap.size = s.heap.size := rfl
  have hzl0 := hzl
  refine v_aload_n X dJ4_append_bf812_0 1 rfl 0 rfl ?_
  refine v_iload_n X dJ4_append_bf812_1 2 rfl 1 rfl ?_
  refine v_muSU (C := RJ4) X hM (h_sb.1) (c_J5_appendI_1 l E b v N f ml n z x x0 x1 n0 n1 n2 hN hf hbz hd_sb_sa) kvJ5_append_c97b9 kim_J5_append_c97b9 ksm_J5_append_c97b9 ksup_J4 (by decide) kl_J4_53 (q0 := 0) rfl rfl (As := [.int (zI x)]) rfl rfl rfl dJ4_append_bf812_2 5 rfl (k' := 1) (n' := 70) rfl rfl (by intro q hq; simp only [Fr, Fs, or_false, false_or] at hq ⊢; omega) ⟨h_sb, h_sa, (by omega)⟩ (fun rv H1 lo1 hM hF hpo => ?_)
  obtain ⟨v1_2, N1_3, f1_4, rfl, hp_f_5, hp_f_6, hp_f_7, hp_f_8, hp_f_9, hp_f_10, hw_0, hw_1⟩ := hpo
  have h_sb : PR E b [(b, .inr (1, [.ref v1_2, .int (zI 0), .int (zI ml), .int (zI (n + 1))]))] H1 := hw_0
  have h_sa : PR E v1_2 [(v1_2, .inl (E 102 2, N1_3, .inl (zA f1_4)))] H1 := hw_1
  replace hzl := Nat.le_trans hzl hF.1
  show V p l e (rmL 5 1 70) s m args below meth cd Q 2 H1 lo1 1 70 5 [(0, .ref b), (1, .int (zI x))] [.ref b]
  refine v_pop X dJ4_append_bf812_5 6 rfl rfl ?_
  refine v_aload_n X dJ4_append_bf812_6 7 rfl 0 rfl ?_
  subst hQ; exact m_aret X hr (Or.inl ⟨_, rfl⟩) hlk hM dJ4_append_bf812_7 rfl (Or.inr ⟨_, rfl⟩) ⟨v1_2, N1_3, f1_4, rfl, (by exact hp_f_5), (by exact hp_f_6), (by exact hp_f_7), (by exact hp_f_8), (by exact hp_f_9), (by exact hp_f_10), h_sb, h_sa⟩
set_option maxHeartbeats 4000000 in
set_option maxRecDepth 20000 in
theorem c_J5_appendI_2 (l : Launch) (E : Nat → Nat → Nat) (b : Nat) (v : Nat) (N : Nat) (f : Int → Int) (ml : Int) (n : Int) (z : Nat) (x : Int) (x0 : 10 ≤ x) (x1 : x < 100) (n0 : 0 ≤ n) (n1 : n ≤ (N : Int)) (n2 : n < 68) (hN : N = 16 ∨ N = 34 ∨ N = 70) (hf : ∀ j : Int, 0 ≤ f j ∧ f j < 128) (hbz : b < z) (hd_sb_sa : b + 1 ≤ v ∨ v + 1 ≤ b) : Mu l yJ5_append_c97b9 cJ5_append_c97b9 4 (some (.object "java/lang/AbstractStringBuilder")) 4 1 70 E [(b, 1), (v, 1)] [.ref b, .int (zI x)] (fun H => PR E b [(b, .inr (1, [.ref v, .int (zI 0), .int (zI ml), .int (zI n)]))] H ∧ PR E v [(v, .inl (E 102 2, N, .inl (zA f)))] H ∧ z ≤ H.size) (fun rv H => ∃ v1 : Nat, ∃ N1 : Nat, ∃ f1 : Int → Int, rv = some (.ref b) ∧ (v1 = v ∨ z ≤ v1) ∧ (N1 = 16 ∨ N1 = 34 ∨ N1 = 70) ∧ n + 2 ≤ (N1 : Int) ∧ (∀ j : Int, 0 ≤ j ∧ j < n → f1 j = f j) ∧ f1 n = 48 + x / 10 ∧ f1 (n + 1) = 48 + x % 10 ∧ (∀ j : Int, 0 ≤ f1 j ∧ f1 j < 128) ∧ PR E b [(b, .inr (1, [.ref v1, .int (zI 0), .int (zI ml), .int (zI (n + 2))]))] H ∧ PR E v1 [(v1, .inl (E 102 2, N1, .inl (zA f1)))] H) := by
  refine Mu.start (own := RJ5) rfl (by decide +kernel) (Nat.le_of_ble_eq_true rfl) ?_
  intro p e s m below meth cd args Q hQ X hr hlk hnm hM hPr
  obtain ⟨h_sb, h_sa, hzl⟩ := hPr
  have hz : s.heap.size = s.heap.size := rfl
  have hzl0 := hzl
  have hbs : b < s.heap.size := (h_sb.1 0 _ rfl).lt
  refine v_aload_n X dJ5_append_c97b9_0 1 rfl 0 rfl ?_
  refine v_getf X hM.C h_sb.1 inJ4 0 rfl rfl 3 (by decide) kf_J5_79 (fun _ h => h) rfl dJ5_append_c97b9_1 4 rfl ?_
  show V p l e (rmL 4 1 70) s m args below meth cd Q 4 s.heap [] 0 0 4 [(0, .ref b), (1, .int (zI x))] [.int (zI n)]
  refine v_istore_n X dJ5_append_c97b9_4 5 rfl rfl (by decide) (L' := [(2, .int (zI n)), (0, .ref b), (1, .int (zI x))]) rfl ?_
  refine v_iload_n X dJ5_append_c97b9_5 6 rfl 0 rfl ?_
  refine v_iload_n X dJ5_append_c97b9_6 7 rfl 2 rfl ?_
  refine v_rdS X hM.C (ws0 E s.heap) (c_J6_stringSize_2 l E x x0 x1) kvJ6_stringSize_0f7a4 ksJ6_stringSize_0f7a4 kl_J5_245 (As := [.int (zI x)]) rfl rfl rfl dJ5_append_c97b9_7 10 rfl ?_
  show V p l e (rmL 4 1 70) s m args below meth cd Q 4 s.heap [] 0 0 10 [(2, .int (zI n)), (0, .ref b), (1, .int (zI x))] [.int (zI 2), .int (zI n)]
  refine v_iadd X dJ5_append_c97b9_10 11 rfl ?_
  refine v_istore_n X dJ5_append_c97b9_11 12 rfl rfl (by decide) (L' := [(3, .int (zI (n + 2))), (2, .int (zI n)), (0, .ref b), (1, .int (zI x))]) rfl ?_
  refine v_aload_n X dJ5_append_c97b9_12 13 rfl 2 rfl ?_
  refine v_iload_n X dJ5_append_c97b9_13 14 rfl 0 rfl ?_
  refine v_muU (C := RJ4) (hsel := va_Nw.use rfl (hM.C.2.2.2.1.2.2.2 _ (by simp))) X hM (h_sb.1) (c_J5_ensureCapacityInternal_d00df l E b v N f ml n s.heap.size (n + 2) hN (by omega) (by omega) (by omega) hf (by omega) hd_sb_sa) kvJ5_ensureCapacityInternal_d00df kim_J5_ensureCapacityInternal_d00df ksm_J5_ensureCapacityInternal_d00df kl_J5_100 (q0 := 0) rfl rfl (As := [.int (zI (n + 2))]) rfl rfl rfl dJ5_append_c97b9_14 17 rfl (k' := 1) (n' := 70) rfl rfl (fsI (fun q q1 q2 => (Or.inl (fsH (by omega) (by omega))))) ⟨h_sb, h_sa, (by omega)⟩ (fun rv H1 lo1 hM hF hpo => ?_)
  obtain ⟨v1_2, N1_3, f1_4, rfl, hp_f_5, hp_f_6, hp_f_7, hp_f_8, hp_f_9, hw_0, hw_1⟩ := hpo
  have h_sb : PR E b [(b, .inr (1, [.ref v1_2, .int (zI 0), .int (zI ml), .int (zI n)]))] H1 := hw_0
  have h_sa : PR E v1_2 [(v1_2, .inl (E 102 2, N1_3, .inl (zA f1_4)))] H1 := hw_1
  replace hzl := Nat.le_trans hzl hF.1
  show V p l e (rmL 4 1 70) s m args below meth cd Q 4 H1 lo1 1 70 17 [(3, .int (zI (n + 2))), (2, .int (zI n)), (0, .ref b), (1, .int (zI x))] []
  have hd9 : b + 1 ≤ v1_2 ∨ v1_2 + 1 ≤ b := by omega
  refine v_aload_n X dJ5_append_c97b9_17 18 rfl 2 rfl ?_
  refine v_rdU (C := RJ4) (hsel := X.2.2.2.2 _ ksl_J5_isLatin1_aae02) X hM.C h_sb.1 (c_J5_isLatin1_aae02 l E b v1_2 ml n) kvJ5_isLatin1_aae02 kim_J5_isLatin1_aae02 ksm_J5_isLatin1_aae02 kl_J5_83 rfl rfl (As := []) rfl rfl rfl dJ5_append_c97b9_18 21 rfl ?_
  show V p l e (rmL 4 1 70) s m args below meth cd Q 4 H1 lo1 1 70 21 [(3, .int (zI (n + 2))), (2, .int (zI n)), (0, .ref b), (1, .int (zI x))] [.int (zI (bz ((0 : Int) = 0)))]
  refine v_bif_eq X dJ5_append_c97b9_21 24 37 rfl (by decide) (fun c_10 => ?_) (fun c_10 => ?_)
  · skip
    exfalso; omega
  · skip
    refine v_iload_n X dJ5_append_c97b9_24 25 rfl 3 rfl ?_
    refine v_iload_n X dJ5_append_c97b9_25 26 rfl 0 rfl ?_
    refine v_aload_n X dJ5_append_c97b9_26 27 rfl 2 rfl ?_
    refine v_getf X hM.C h_sb.1 inJ4 0 rfl rfl 0 (by decide) kf_J5_15 (fun _ h => h) rfl dJ5_append_c97b9_27 30 rfl ?_
    refine v_muS X hM (c_J6_getChars_2 l E v1_2 N1_3 f1_4 x (n + 2) x0 x1 (by omega) hp_f_7 (by omega)) kvJ6_getChars_ba4f3 ksJ6_getChars_ba4f3 kl_J5_248 (As := [.int (zI x), .int (zI (n + 2)), .ref v1_2]) rfl rfl rfl dJ5_append_c97b9_30 33 rfl (k' := 1) (n' := 70) rfl rfl (fsI (fun q q1 q2 => fr_or1 hp_f_5 (by simp [Fs]) q1 q2)) h_sa (fun rv H11 lo11 hM hF hpo => ?_)
    obtain ⟨rfl, hw_0⟩ := hpo
    have h_sa : PR E v1_2 [(v1_2, .inl (E 102 2, N1_3, .inl (zA (updZ (updZ f1_4 ((n + 2) + (-1)) (48 + x % 10)) ((n + 2) + (-1) + (-1)) (48 + x / 10)))))] H11 := hw_0
    replace hzl := Nat.le_trans hzl hF.1
    replace h_sb := h_sb.kept hF 1 rfl (fsd (by omega))
    show V p l e (rmL 4 1 70) s m args below meth cd Q 4 H11 lo11 1 70 33 [(3, .int (zI (n + 2))), (2, .int (zI n)), (0, .ref b), (1, .int (zI x))] [.int (zI ((n + 2) - 2))]
    refine v_pop X dJ5_append_c97b9_33 34 rfl rfl ?_
    refine v_goto X dJ5_append_c97b9_34 48 (by decide) ?_
    refine v_aload_n X dJ5_append_c97b9_48 49 rfl 2 rfl ?_
    refine v_iload_n X dJ5_append_c97b9_49 50 rfl 0 rfl ?_
    refine v_putf X hM h_sb ftJ4 0 rfl rfl 3 (by decide) kf_J5_79 (fun _ h => h) rfl rfl rfl (Nat.le_of_ble_eq_true rfl) (Or.inl (fsH (by omega) (by omega))) dJ5_append_c97b9_50 53 rfl (ws' := [(b, .inr (1, [.ref v1_2, .int (zI 0), .int (zI ml), .int (zI (n + 2))]))]) rfl (fun H12 lo12 hzz hM hF h_sb => ?_)
    clear hzz
    replace hzl := Nat.le_trans hzl hF.1
    replace h_sa := h_sa.kept hF 1 rfl (fsd (by omega))
    refine v_aload_n X dJ5_append_c97b9_53 54 rfl 2 rfl ?_
    subst hQ; exact m_aret X hr (Or.inl ⟨_, rfl⟩) hlk hM dJ5_append_c97b9_54 rfl (Or.inr ⟨_, rfl⟩) ⟨v1_2, N1_3, (updZ (updZ f1_4 ((n + 2) + (-1)) (48 + x % 10)) ((n + 2) + (-1) + (-1)) (48 + x / 10)), rfl, (by omega), (by omega), (by omega), (by intro j hj; rw [updZ_ne _ _ (by omega), updZ_ne _ _ (by omega)]; exact hp_f_8 j (by omega)), (by show (if n = n + 2 + (-1) + (-1) then _ else _) = _; exact if_pos (by omega)), (by show (if n + 1 = n + 2 + (-1) + (-1) then _ else (if n + 1 = n + 2 + (-1) then _ else _)) = _; rw [if_neg (by omega), if_pos (by omega)]), (by exact updZ_lat (updZ_lat hp_f_9 ⟨by omega, by omega⟩) ⟨by omega, by omega⟩), h_sb, h_sa⟩
set_option maxHeartbeats 4000000 in
set_option maxRecDepth 20000 in
theorem c_J4_appendI_2 (l : Launch) (E : Nat → Nat → Nat) (b : Nat) (v : Nat) (N : Nat) (f : Int → Int) (ml : Int) (n : Int) (z : Nat) (x : Int) (x0 : 10 ≤ x) (x1 : x < 100) (n0 : 0 ≤ n) (n1 : n ≤ (N : Int)) (n2 : n < 68) (hN : N = 16 ∨ N = 34 ∨ N = 70) (hf : ∀ j : Int, 0 ≤ f j ∧ f j < 128) (hbz : b < z) (hd_sb_sa : b + 1 ≤ v ∨ v + 1 ≤ b) : Mu l yJ4_append_bf812 cJ4_append_bf812 2 (some (.object "java/lang/StringBuilder")) 5 1 70 E [(b, 1), (v, 1)] [.ref b, .int (zI x)] (fun H => PR E b [(b, .inr (1, [.ref v, .int (zI 0), .int (zI ml), .int (zI n)]))] H ∧ PR E v [(v, .inl (E 102 2, N, .inl (zA f)))] H ∧ z ≤ H.size) (fun rv H => ∃ v1 : Nat, ∃ N1 : Nat, ∃ f1 : Int → Int, rv = some (.ref b) ∧ (v1 = v ∨ z ≤ v1) ∧ (N1 = 16 ∨ N1 = 34 ∨ N1 = 70) ∧ n + 2 ≤ (N1 : Int) ∧ (∀ j : Int, 0 ≤ j ∧ j < n → f1 j = f j) ∧ f1 n = 48 + x / 10 ∧ f1 (n + 1) = 48 + x % 10 ∧ (∀ j : Int, 0 ≤ f1 j ∧ f1 j < 128) ∧ PR E b [(b, .inr (1, [.ref v1, .int (zI 0), .int (zI ml), .int (zI (n + 2))]))] H ∧ PR E v1 [(v1, .inl (E 102 2, N1, .inl (zA f1)))] H) := by
  refine Mu.start (own := RJ4) rfl (by decide +kernel) (Nat.le_of_ble_eq_true rfl) ?_
  intro p e s m below meth cd args Q hQ X hr hlk hnm hM hPr
  obtain ⟨h_sb, h_sa, hzl⟩ := hPr
  have hz : s.heap.size = s.heap.size := rfl
  have hzl0 := hzl
  refine v_aload_n X dJ4_append_bf812_0 1 rfl 0 rfl ?_
  refine v_iload_n X dJ4_append_bf812_1 2 rfl 1 rfl ?_
  refine v_muSU (C := RJ4) X hM (h_sb.1) (c_J5_appendI_2 l E b v N f ml n z x x0 x1 n0 n1 n2 hN hf hbz hd_sb_sa) kvJ5_append_c97b9 kim_J5_append_c97b9 ksm_J5_append_c97b9 ksup_J4 (by decide) kl_J4_53 (q0 := 0) rfl rfl (As := [.int (zI x)]) rfl rfl rfl dJ4_append_bf812_2 5 rfl (k' := 1) (n' := 70) rfl rfl (by intro q hq; simp only [Fr, Fs, or_false, false_or] at hq ⊢; omega) ⟨h_sb, h_sa, (by omega)⟩ (fun rv H1 lo1 hM hF hpo => ?_)
  obtain ⟨v1_2, N1_3, f1_4, rfl, hp_f_5, hp_f_6, hp_f_7, hp_f_8, hp_f_9, hp_f_10, hp_f_11, hw_0, hw_1⟩ := hpo
  have h_sb : PR E b [(b, .inr (1, [.ref v1_2, .int (zI 0), .int (zI ml), .int (zI (n + 2))]))] H1 := hw_0
  have h_sa : PR E v1_2 [(v1_2, .inl (E 102 2, N1_3, .inl (zA f1_4)))] H1 := hw_1
  replace hzl := Nat.le_trans hzl hF.1
  show V p l e (rmL 5 1 70) s m args below meth cd Q 2 H1 lo1 1 70 5 [(0, .ref b), (1, .int (zI x))] [.ref b]
  refine v_pop X dJ4_append_bf812_5 6 rfl rfl ?_
  refine v_aload_n X dJ4_append_bf812_6 7 rfl 0 rfl ?_
  subst hQ; exact m_aret X hr (Or.inl ⟨_, rfl⟩) hlk hM dJ4_append_bf812_7 rfl (Or.inr ⟨_, rfl⟩) ⟨v1_2, N1_3, f1_4, rfl, (by exact hp_f_5), (by exact hp_f_6), (by exact hp_f_7), (by exact hp_f_8), (by exact hp_f_9), (by exact hp_f_10), (by exact hp_f_11), h_sb, h_sa⟩

