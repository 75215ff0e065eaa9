def clB (c : Int → Int) (t : Int) (i : Nat) : Int → Int := fun j => if t ≤ j ∧ j < t + (i : Int) then 0 else c j
theorem clB_0 (c : Int → Int) (t : Int) : clB c t 0 = c := by
  funext j
  exact if_neg (by omega)
theorem clB_s {c : Int → Int} {t : Int} {i : Nat} : updZ (clB c t i) (t + (i : Int)) 0 = clB c t (i + 1) := by
  funext j
  unfold updZ clB
  by_cases e : j = t + (i : Int)
  · rw [if_pos e, if_pos (by omega)]
  · rw [if_neg e]
    by_cases q : t ≤ j ∧ j < t + (i : Int)
    · rw [if_pos q, if_pos (by omega)]
    · rw [if_neg q, if_neg (by omega)]
set_option maxHeartbeats 4000000 in
set_option maxRecDepth 20000 in
theorem c_X10_command_c (l : Launch) (E : Nat → Nat → Nat) (b : Nat) (mo : Nat → Int → Int) (sp : Int × Int) (si : Int) (hcr : ∀ j : Int, 0 ≤ j → j < mo 0 8 → 0 ≤ mo 3 j ∧ mo 3 j < 128) (hn : 0 ≤ mo 0 8 ∧ mo 0 8 ≤ 60) (e9 : mo 0 9 = sp.1) (e10 : mo 0 10 = sp.2) (bs : inS (mo 0 8) sp) (hse : sp.2 = -1) (hsi : mo 0 15 = si) (si0 : 0 ≤ si) (si1 : si < 61) (hf1 : sgM (mo 3) (mo 0 8) sp.1 = 99) (hl : ¬ sgM (mo 3) (mo 0 8) (sp.1 + 1) = 108) : Mu l yX10_command cX10_command 4 none 4 0 0 E [(b, 5)] [.ref b] (fun H => PR E b (modelW E b mo) H) (fun rv H => rv = none ∧ PR E b (modelW E b (updC (updC mo 0 (updZ (updZ (updZ (mo 0) 9 (((nm (mo 3) (mo 0 8) (nd (mo 3) (mo 0 8) ((nm (mo 3) (mo 0 8) (nd (mo 3) (mo 0 8) (nd (mo 3) (mo 0 8) (nd (mo 3) (mo 0 8) (nd (mo 3) (mo 0 8) (nd (mo 3) (mo 0 8) (nd (mo 3) (mo 0 8) (sp.1 + 1, sp.2) 104) 97) 114) 103) 101) 32) 1).2) 32) 1).2).1)) 10 (((nm (mo 3) (mo 0 8) (nd (mo 3) (mo 0 8) ((nm (mo 3) (mo 0 8) (nd (mo 3) (mo 0 8) (nd (mo 3) (mo 0 8) (nd (mo 3) (mo 0 8) (nd (mo 3) (mo 0 8) (nd (mo 3) (mo 0 8) (nd (mo 3) (mo 0 8) (sp.1 + 1, sp.2) 104) 97) 114) 103) 101) 32) 1).2) 32) 1).2).2)) 15 (si + 1))) 4 (updZ (updZ (updZ (clB (mo 4) (5 * si) 5) (5 * si) 99) (5 * si + 1) (nm (mo 3) (mo 0 8) (nd (mo 3) (mo 0 8) (nd (mo 3) (mo 0 8) (nd (mo 3) (mo 0 8) (nd (mo 3) (mo 0 8) (nd (mo 3) (mo 0 8) (nd (mo 3) (mo 0 8) (sp.1 + 1, sp.2) 104) 97) 114) 103) 101) 32) 1).1) (5 * si + 2) (nm (mo 3) (mo 0 8) (nd (mo 3) (mo 0 8) ((nm (mo 3) (mo 0 8) (nd (mo 3) (mo 0 8) (nd (mo 3) (mo 0 8) (nd (mo 3) (mo 0 8) (nd (mo 3) (mo 0 8) (nd (mo 3) (mo 0 8) (nd (mo 3) (mo 0 8) (sp.1 + 1, sp.2) 104) 97) 114) 103) 101) 32) 1).2) 32) 1).1))) H) := by
  refine Mu.start (own := RX10) rfl (by decide +kernel) (Nat.le_of_ble_eq_true rfl) ?_
  intro p e s m below meth cd args Q hQ X hr hlk hnm hM hPr
  have h_mo := hPr
  have hbs := bs
  dsimp only [inS] at hbs
  replace h_mo : PR E b (modelW E b (updC mo 0 (updZ (updZ (mo 0) 9 sp.1) 10 sp.2))) s.heap := PR.to h_mo (by rw [upd_2 e9 e10])
  refine v_iconst X dX10_command_0 1 rfl ?_
  refine v_aload_n X dX10_command_1 2 rfl 0 rfl ?_
  refine v_getf X hM.C h_mo.1 inX10 0 rfl rfl 15 (by decide) kf_X10_188 (fun _ h => h) rfl dX10_command_2 5 rfl ?_
  show V p l e (rmL 4 0 0) s m args below meth cd Q 4 s.heap [] 0 0 5 [(0, .ref b)] [.int (zI (mo 0 15)), .int (zI 5)]
  refine v_imul X dX10_command_5 6 rfl ?_
  refine V_S (st' := [.int (zI (5 * si))]) (by rw [hsi]) ?_
  refine v_istore_n X dX10_command_6 7 rfl rfl (by decide) (L' := [(1, .int (zI (5 * si))), (0, .ref b)]) rfl ?_
  refine v_aload_n X dX10_command_7 8 rfl 1 rfl ?_
  refine v_dup X dX10_command_8 9 rfl rfl ?_
  refine v_getf X hM.C h_mo.1 inX10 0 rfl rfl 15 (by decide) kf_X10_188 (fun _ h => h) rfl dX10_command_9 12 rfl ?_
  show V p l e (rmL 4 0 0) s m args below meth cd Q 4 s.heap [] 0 0 12 [(1, .int (zI (5 * si))), (0, .ref b)] [.int (zI (mo 0 15)), .ref b]
  refine v_iconst X dX10_command_12 13 rfl ?_
  refine v_iadd X dX10_command_13 14 rfl ?_
  refine v_putf X hM h_mo ftX10 0 rfl rfl 15 (by decide) kf_X10_188 (fun _ h => h) rfl rfl rfl (Nat.le_of_ble_eq_true rfl) (Or.inl (fsH (by omega) (by omega))) dX10_command_14 17 rfl (ws' := modelW E b (updC mo 0 (updZ (updZ (updZ (mo 0) 9 sp.1) 10 sp.2) 15 (mo 0 15 + 1)))) rfl (fun H1 lo1 hzz hM hF h_mo => ?_)
  clear hzz
  rw [hsi] at h_mo
  refine v_aload_n X dX10_command_17 18 rfl 1 rfl ?_
  refine v_rdV X hM.C h_mo.1 (c_X10_sign l E b (updC mo 0 (updZ (updZ (updZ (mo 0) 9 sp.1) 10 sp.2) 15 (si + 1))) sp hcr hn (by first | rfl | assumption) bs) kvX10_sign kiX10_sign kl_X10_175 rfl rfl (As := []) rfl rfl rfl dX10_command_18 21 rfl ?_
  show V p l e (rmL 4 0 0) s m args below meth cd Q 4 H1 lo1 0 0 21 [(1, .int (zI (5 * si))), (0, .ref b)] [.int (zI (sgM (mo 3) (mo 0 8) sp.1))]
  have hf_2 := sgM_b ((mo 3)) (mo 0 8) sp.1 hcr (by first | omega | (dsimp only; omega))
  refine v_istore_n X dX10_command_21 22 rfl rfl (by decide) (L' := [(2, .int (zI (sgM (mo 3) (mo 0 8) sp.1))), (1, .int (zI (5 * si))), (0, .ref b)]) rfl ?_
  refine v_iconst X dX10_command_22 23 rfl ?_
  refine v_istore_n X dX10_command_23 24 rfl rfl (by decide) (L' := [(3, .int (zI 0)), (2, .int (zI (sgM (mo 3) (mo 0 8) sp.1))), (1, .int (zI (5 * si))), (0, .ref b)]) rfl ?_
  refine V_L (L' := [(3, .int (zI 0)), (2, .int (zI (sgM (mo 3) (mo 0 8) sp.1))), (1, .int (zI (5 * si))), (0, .ref b)]) (LC (vz (by rfl)) (LC rfl (LC rfl (LC rfl rfl)))) ?_
  refine up_loop 5 (P := fun (i : Nat) => ∀ (H : Heap) (lo : List Loc), MS E [(b, 5)] s H lo → PR E b (modelW E b (updC (updC mo 0 (updZ (updZ (updZ (mo 0) 9 sp.1) 10 sp.2) 15 (si + 1))) 4 (clB (mo 4) (5 * si) i))) H → V p l e (rmL 4 0 0) s m args below meth cd Q 4 H lo 0 0 24 [(3, .int (zI (i : Int))), (2, .int (zI (sgM (mo 3) (mo 0 8) sp.1))), (1, .int (zI (5 * si))), (0, .ref b)] []) (fun i hi_i ih_i H3 lo3 hM h_mo => ?_) _ _ hM (PR.to h_mo (by rw [clB_0]; rfl))
  refine v_iload_n X dX10_command_24 25 rfl 0 rfl ?_
  refine v_iconst X dX10_command_25 26 rfl ?_
  refine v_icmp_ge X (by omega) (by omega) dX10_command_26 29 44 rfl (by decide) (fun c_4 => ?_) (fun c_4 => ?_)
  · skip
    have h5 : i = 5 := by omega
    refine v_iload_n X dX10_command_44 45 rfl 1 rfl ?_
    refine v_bipush X dX10_command_45 47 rfl rfl ?_
    refine v_icmp_eq X (by omega) (by omega) dX10_command_47 50 89 rfl (by decide) (fun c_5 => ?_) (fun c_5 => ?_)
    · skip
      have hlt := sgM_lt (g := mo 3) (n := mo 0 8) (h := sp.1) (by omega)
      refine v_aload_n X dX10_command_89 90 rfl 3 rfl ?_
      refine v_dup X dX10_command_90 91 rfl rfl ?_
      refine v_getf X hM.C h_mo.1 inX10 0 rfl rfl 9 (by decide) kf_X10_169 (fun _ h => h) rfl dX10_command_91 94 rfl ?_
      show V p l e (rmL 4 0 0) s m args below meth cd Q 4 H3 lo3 0 0 94 [(3, .int (zI (i : Int))), (2, .int (zI (sgM (mo 3) (mo 0 8) sp.1))), (1, .int (zI (5 * si))), (0, .ref b)] [.int (zI sp.1), .ref b]
      refine v_iconst X dX10_command_94 95 rfl ?_
      refine v_iadd X dX10_command_95 96 rfl ?_
      refine v_putf X hM h_mo ftX10 0 rfl rfl 9 (by decide) kf_X10_169 (fun _ h => h) rfl rfl rfl (Nat.le_of_ble_eq_true rfl) (Or.inl (fsH (by omega) (by omega))) dX10_command_96 99 rfl (ws' := modelW E b (updC (updC mo 0 (updZ (updZ (updZ (mo 0) 9 (sp.1 + 1)) 10 sp.2) 15 (si + 1))) 4 (clB (mo 4) (5 * si) i))) rfl (fun H6 lo6 hzz hM hF h_mo => ?_)
      clear hzz
      refine v_aload_n X dX10_command_99 100 rfl 3 rfl ?_
      refine v_iload_n X dX10_command_100 101 rfl 1 rfl ?_
      refine V_S (st' := [.int (zI 99), .ref b]) (by rw [hf1]) ?_
      refine v_muV X hM (h_mo.1) (c_X10_word_99h l E b (updC (updC mo 0 (updZ (updZ (updZ (mo 0) 9 (sp.1 + 1)) 10 sp.2) 15 (si + 1))) 4 (clB (mo 4) (5 * si) i)) (sp.1 + 1, sp.2) hcr hn (by first | rfl | assumption) (by first | rfl | assumption) (show inS (mo 0 8) (sp.1 + 1, sp.2) from (by first | assumption | (dsimp only [inS]; omega))) (show ¬ sgM (mo 3) (mo 0 8) (sp.1 + 1, sp.2).1 = 108 from (by omega))) kvX10_word kiX10_word kl_X10_191 (q0 := 0) rfl rfl (As := [.int (zI 99)]) rfl rfl rfl dX10_command_101 104 rfl (k' := 0) (n' := 0) rfl rfl (fsI (fun q q1 q2 => (Or.inl (fsH (by omega) (by omega))))) h_mo (fun rv H7 lo7 hM hF hpo => ?_)
      obtain ⟨rfl, hw_0⟩ := hpo
      have h_mo : PR E b (modelW E b (updC (updC mo 0 (updZ (updZ (updZ (mo 0) 9 ((nd ((mo 3)) (mo 0 8) (nd ((mo 3)) (mo 0 8) (nd ((mo 3)) (mo 0 8) (nd ((mo 3)) (mo 0 8) (nd ((mo 3)) (mo 0 8) (sp.1 + 1, sp.2) 104) 97) 114) 103) 101).1)) 10 ((nd ((mo 3)) (mo 0 8) (nd ((mo 3)) (mo 0 8) (nd ((mo 3)) (mo 0 8) (nd ((mo 3)) (mo 0 8) (nd ((mo 3)) (mo 0 8) (sp.1 + 1, sp.2) 104) 97) 114) 103) 101).2)) 15 (si + 1))) 4 (clB (mo 4) (5 * si) i))) H7 := hw_0
      show V p l e (rmL 4 0 0) s m args below meth cd Q 4 H7 lo7 0 0 104 [(3, .int (zI (i : Int))), (2, .int (zI (sgM (mo 3) (mo 0 8) sp.1))), (1, .int (zI (5 * si))), (0, .ref b)] [.int (zI 99)]
      have hf_8 := ((nd_b _ _ _ _ (nd_b _ _ _ _ (nd_b _ _ _ _ (nd_b _ _ _ _ (nd_b _ _ _ _ (by first | assumption | (dsimp only [inS]; omega)) (by omega)) (by omega)) (by omega)) (by omega)) (by omega)) : inS (mo 0 8) (nd ((mo 3)) (mo 0 8) (nd ((mo 3)) (mo 0 8) (nd ((mo 3)) (mo 0 8) (nd ((mo 3)) (mo 0 8) (nd ((mo 3)) (mo 0 8) (sp.1 + 1, sp.2) 104) 97) 114) 103) 101))
      refine v_istore_n X dX10_command_104 105 rfl rfl (by decide) (L' := [(3, .int (zI 99)), (2, .int (zI (sgM (mo 3) (mo 0 8) sp.1))), (1, .int (zI (5 * si))), (0, .ref b)]) rfl ?_
      refine v_aload_n X dX10_command_105 106 rfl 3 rfl ?_
      refine v_getf X hM.C h_mo.1 inX10 0 rfl rfl 14 (by decide) kf_X10_27 (fun _ h => h) rfl dX10_command_106 109 rfl ?_
      refine v_iload_n X dX10_command_109 110 rfl 2 rfl ?_
      refine v_iload_n X dX10_command_110 111 rfl 0 rfl ?_
      refine v_iast X hM h_mo 4 rfl (by omega) (by omega) (by omega) (Or.inl (fsH (by omega) (by omega))) dX10_command_111 112 rfl (ws' := modelW E b (updC (updC mo 0 (updZ (updZ (updZ (mo 0) 9 ((nd ((mo 3)) (mo 0 8) (nd ((mo 3)) (mo 0 8) (nd ((mo 3)) (mo 0 8) (nd ((mo 3)) (mo 0 8) (nd ((mo 3)) (mo 0 8) (sp.1 + 1, sp.2) 104) 97) 114) 103) 101).1)) 10 ((nd ((mo 3)) (mo 0 8) (nd ((mo 3)) (mo 0 8) (nd ((mo 3)) (mo 0 8) (nd ((mo 3)) (mo 0 8) (nd ((mo 3)) (mo 0 8) (sp.1 + 1, sp.2) 104) 97) 114) 103) 101).2)) 15 (si + 1))) 4 (updZ (clB (mo 4) (5 * si) i) (5 * si) 99))) rfl (fun H9 lo9 hzz hM hF h_mo => ?_)
      clear hzz
      refine v_aload_n X dX10_command_112 113 rfl 3 rfl ?_
      refine v_getf X hM.C h_mo.1 inX10 0 rfl rfl 14 (by decide) kf_X10_27 (fun _ h => h) rfl dX10_command_113 116 rfl ?_
      refine v_iload_n X dX10_command_116 117 rfl 2 rfl ?_
      refine v_iconst X dX10_command_117 118 rfl ?_
      refine v_iadd X dX10_command_118 119 rfl ?_
      refine v_aload_n X dX10_command_119 120 rfl 3 rfl ?_
      refine v_iload_n X dX10_command_120 121 rfl 0 rfl ?_
      refine v_bipush X dX10_command_121 123 rfl rfl ?_
      refine v_icmp_eq X (by omega) (by omega) dX10_command_123 126 132 rfl (by decide) (fun c_10 => ?_) (fun c_10 => ?_)
      · skip
        refine v_iconst X dX10_command_132 133 rfl ?_
        refine v_goto X dX10_command_133 137 (by decide) ?_
        refine v_muV X hM (h_mo.1) (c_X10_behind_1 l E b (updC (updC mo 0 (updZ (updZ (updZ (mo 0) 9 ((nd ((mo 3)) (mo 0 8) (nd ((mo 3)) (mo 0 8) (nd ((mo 3)) (mo 0 8) (nd ((mo 3)) (mo 0 8) (nd ((mo 3)) (mo 0 8) (sp.1 + 1, sp.2) 104) 97) 114) 103) 101).1)) 10 ((nd ((mo 3)) (mo 0 8) (nd ((mo 3)) (mo 0 8) (nd ((mo 3)) (mo 0 8) (nd ((mo 3)) (mo 0 8) (nd ((mo 3)) (mo 0 8) (sp.1 + 1, sp.2) 104) 97) 114) 103) 101).2)) 15 (si + 1))) 4 (updZ (clB (mo 4) (5 * si) i) (5 * si) 99)) (nd (mo 3) (mo 0 8) (nd (mo 3) (mo 0 8) (nd (mo 3) (mo 0 8) (nd (mo 3) (mo 0 8) (nd (mo 3) (mo 0 8) (sp.1 + 1, sp.2) 104) 97) 114) 103) 101) hcr hn (by first | rfl | assumption) (by first | rfl | assumption) (show inS (mo 0 8) (nd (mo 3) (mo 0 8) (nd (mo 3) (mo 0 8) (nd (mo 3) (mo 0 8) (nd (mo 3) (mo 0 8) (nd (mo 3) (mo 0 8) (sp.1 + 1, sp.2) 104) 97) 114) 103) 101) from (by first | assumption | (dsimp only [inS]; omega)))) kvX10_behind kiX10_behind kl_X10_194 (q0 := 0) rfl rfl (As := [.int (zI 1)]) rfl rfl rfl dX10_command_137 140 rfl (k' := 0) (n' := 0) rfl rfl (fsI (fun q q1 q2 => (Or.inl (fsH (by omega) (by omega))))) h_mo (fun rv H11 lo11 hM hF hpo => ?_)
        obtain ⟨rfl, hw_0⟩ := hpo
        have h_mo : PR E b (modelW E b (updC (updC mo 0 (updZ (updZ (updZ (mo 0) 9 (((nm ((mo 3)) (mo 0 8) (nd ((mo 3)) (mo 0 8) (nd (mo 3) (mo 0 8) (nd (mo 3) (mo 0 8) (nd (mo 3) (mo 0 8) (nd (mo 3) (mo 0 8) (nd (mo 3) (mo 0 8) (sp.1 + 1, sp.2) 104) 97) 114) 103) 101) 32) 1).2).1)) 10 (((nm ((mo 3)) (mo 0 8) (nd ((mo 3)) (mo 0 8) (nd (mo 3) (mo 0 8) (nd (mo 3) (mo 0 8) (nd (mo 3) (mo 0 8) (nd (mo 3) (mo 0 8) (nd (mo 3) (mo 0 8) (sp.1 + 1, sp.2) 104) 97) 114) 103) 101) 32) 1).2).2)) 15 (si + 1))) 4 (updZ (clB (mo 4) (5 * si) i) (5 * si) 99))) H11 := hw_0
        show V p l e (rmL 4 0 0) s m args below meth cd Q 4 H11 lo11 0 0 140 [(3, .int (zI 99)), (2, .int (zI (sgM (mo 3) (mo 0 8) sp.1))), (1, .int (zI (5 * si))), (0, .ref b)] [.int (zI ((nm (mo 3) (mo 0 8) (nd (mo 3) (mo 0 8) (nd (mo 3) (mo 0 8) (nd (mo 3) (mo 0 8) (nd (mo 3) (mo 0 8) (nd (mo 3) (mo 0 8) (nd (mo 3) (mo 0 8) (sp.1 + 1, sp.2) 104) 97) 114) 103) 101) 32) 1).1)), .int (zI (5 * si + 1)), .ref (b + 4)]
        have hf_12 := nm_b ((mo 3)) (mo 0 8) (nd ((mo 3)) (mo 0 8) (nd (mo 3) (mo 0 8) (nd (mo 3) (mo 0 8) (nd (mo 3) (mo 0 8) (nd (mo 3) (mo 0 8) (nd (mo 3) (mo 0 8) (sp.1 + 1, sp.2) 104) 97) 114) 103) 101) 32) 1 (nd_b _ _ _ _ (by first | assumption | (dsimp only [inS]; omega)) (by omega))
        refine v_iast X hM h_mo 4 rfl (by omega) (by omega) (by omega) (Or.inl (fsH (by omega) (by omega))) dX10_command_140 141 rfl (ws' := modelW E b (updC (updC mo 0 (updZ (updZ (updZ (mo 0) 9 (((nm ((mo 3)) (mo 0 8) (nd ((mo 3)) (mo 0 8) (nd (mo 3) (mo 0 8) (nd (mo 3) (mo 0 8) (nd (mo 3) (mo 0 8) (nd (mo 3) (mo 0 8) (nd (mo 3) (mo 0 8) (sp.1 + 1, sp.2) 104) 97) 114) 103) 101) 32) 1).2).1)) 10 (((nm ((mo 3)) (mo 0 8) (nd ((mo 3)) (mo 0 8) (nd (mo 3) (mo 0 8) (nd (mo 3) (mo 0 8) (nd (mo 3) (mo 0 8) (nd (mo 3) (mo 0 8) (nd (mo 3) (mo 0 8) (sp.1 + 1, sp.2) 104) 97) 114) 103) 101) 32) 1).2).2)) 15 (si + 1))) 4 (updZ (updZ (clB (mo 4) (5 * si) i) (5 * si) 99) (5 * si + 1) ((nm (mo 3) (mo 0 8) (nd (mo 3) (mo 0 8) (nd (mo 3) (mo 0 8) (nd (mo 3) (mo 0 8) (nd (mo 3) (mo 0 8) (nd (mo 3) (mo 0 8) (nd (mo 3) (mo 0 8) (sp.1 + 1, sp.2) 104) 97) 114) 103) 101) 32) 1).1)))) rfl (fun H13 lo13 hzz hM hF h_mo => ?_)
        clear hzz
        refine v_iload_n X dX10_command_141 142 rfl 0 rfl ?_
        refine v_lookup X dX10_command_142 (by decide) (off := 34) (by decide) 176 (by decide) ?_
        refine v_aload_n X dX10_command_176 177 rfl 3 rfl ?_
        refine v_getf X hM.C h_mo.1 inX10 0 rfl rfl 14 (by decide) kf_X10_27 (fun _ h => h) rfl dX10_command_177 180 rfl ?_
        refine v_iload_n X dX10_command_180 181 rfl 2 rfl ?_
        refine v_iconst X dX10_command_181 182 rfl ?_
        refine v_iadd X dX10_command_182 183 rfl ?_
        refine v_aload_n X dX10_command_183 184 rfl 3 rfl ?_
        refine v_iconst X dX10_command_184 185 rfl ?_
        refine v_muV X hM (h_mo.1) (c_X10_behind_1 l E b (updC (updC mo 0 (updZ (updZ (updZ (mo 0) 9 (((nm ((mo 3)) (mo 0 8) (nd ((mo 3)) (mo 0 8) (nd (mo 3) (mo 0 8) (nd (mo 3) (mo 0 8) (nd (mo 3) (mo 0 8) (nd (mo 3) (mo 0 8) (nd (mo 3) (mo 0 8) (sp.1 + 1, sp.2) 104) 97) 114) 103) 101) 32) 1).2).1)) 10 (((nm ((mo 3)) (mo 0 8) (nd ((mo 3)) (mo 0 8) (nd (mo 3) (mo 0 8) (nd (mo 3) (mo 0 8) (nd (mo 3) (mo 0 8) (nd (mo 3) (mo 0 8) (nd (mo 3) (mo 0 8) (sp.1 + 1, sp.2) 104) 97) 114) 103) 101) 32) 1).2).2)) 15 (si + 1))) 4 (updZ (updZ (clB (mo 4) (5 * si) i) (5 * si) 99) (5 * si + 1) ((nm (mo 3) (mo 0 8) (nd (mo 3) (mo 0 8) (nd (mo 3) (mo 0 8) (nd (mo 3) (mo 0 8) (nd (mo 3) (mo 0 8) (nd (mo 3) (mo 0 8) (nd (mo 3) (mo 0 8) (sp.1 + 1, sp.2) 104) 97) 114) 103) 101) 32) 1).1))) ((nm (mo 3) (mo 0 8) (nd (mo 3) (mo 0 8) (nd (mo 3) (mo 0 8) (nd (mo 3) (mo 0 8) (nd (mo 3) (mo 0 8) (nd (mo 3) (mo 0 8) (nd (mo 3) (mo 0 8) (sp.1 + 1, sp.2) 104) 97) 114) 103) 101) 32) 1).2) hcr hn (by first | rfl | assumption) (by first | rfl | assumption) (show inS (mo 0 8) ((nm (mo 3) (mo 0 8) (nd (mo 3) (mo 0 8) (nd (mo 3) (mo 0 8) (nd (mo 3) (mo 0 8) (nd (mo 3) (mo 0 8) (nd (mo 3) (mo 0 8) (nd (mo 3) (mo 0 8) (sp.1 + 1, sp.2) 104) 97) 114) 103) 101) 32) 1).2) from (by first | assumption | (dsimp only [inS]; omega)))) kvX10_behind kiX10_behind kl_X10_194 (q0 := 0) rfl rfl (As := [.int (zI 1)]) rfl rfl rfl dX10_command_185 188 rfl (k' := 0) (n' := 0) rfl rfl (fsI (fun q q1 q2 => (Or.inl (fsH (by omega) (by omega))))) h_mo (fun rv H14 lo14 hM hF hpo => ?_)
        obtain ⟨rfl, hw_0⟩ := hpo
        have h_mo : PR E b (modelW E b (updC (updC mo 0 (updZ (updZ (updZ (mo 0) 9 (((nm ((mo 3)) (mo 0 8) (nd ((mo 3)) (mo 0 8) ((nm (mo 3) (mo 0 8) (nd (mo 3) (mo 0 8) (nd (mo 3) (mo 0 8) (nd (mo 3) (mo 0 8) (nd (mo 3) (mo 0 8) (nd (mo 3) (mo 0 8) (nd (mo 3) (mo 0 8) (sp.1 + 1, sp.2) 104) 97) 114) 103) 101) 32) 1).2) 32) 1).2).1)) 10 (((nm ((mo 3)) (mo 0 8) (nd ((mo 3)) (mo 0 8) ((nm (mo 3) (mo 0 8) (nd (mo 3) (mo 0 8) (nd (mo 3) (mo 0 8) (nd (mo 3) (mo 0 8) (nd (mo 3) (mo 0 8) (nd (mo 3) (mo 0 8) (nd (mo 3) (mo 0 8) (sp.1 + 1, sp.2) 104) 97) 114) 103) 101) 32) 1).2) 32) 1).2).2)) 15 (si + 1))) 4 (updZ (updZ (clB (mo 4) (5 * si) i) (5 * si) 99) (5 * si + 1) ((nm (mo 3) (mo 0 8) (nd (mo 3) (mo 0 8) (nd (mo 3) (mo 0 8) (nd (mo 3) (mo 0 8) (nd (mo 3) (mo 0 8) (nd (mo 3) (mo 0 8) (nd (mo 3) (mo 0 8) (sp.1 + 1, sp.2) 104) 97) 114) 103) 101) 32) 1).1)))) H14 := hw_0
        show V p l e (rmL 4 0 0) s m args below meth cd Q 4 H14 lo14 0 0 188 [(3, .int (zI 99)), (2, .int (zI (sgM (mo 3) (mo 0 8) sp.1))), (1, .int (zI (5 * si))), (0, .ref b)] [.int (zI ((nm (mo 3) (mo 0 8) (nd (mo 3) (mo 0 8) ((nm (mo 3) (mo 0 8) (nd (mo 3) (mo 0 8) (nd (mo 3) (mo 0 8) (nd (mo 3) (mo 0 8) (nd (mo 3) (mo 0 8) (nd (mo 3) (mo 0 8) (nd (mo 3) (mo 0 8) (sp.1 + 1, sp.2) 104) 97) 114) 103) 101) 32) 1).2) 32) 1).1)), .int (zI (5 * si + 2)), .ref (b + 4)]
        have hf_15 := nm_b ((mo 3)) (mo 0 8) (nd ((mo 3)) (mo 0 8) ((nm (mo 3) (mo 0 8) (nd (mo 3) (mo 0 8) (nd (mo 3) (mo 0 8) (nd (mo 3) (mo 0 8) (nd (mo 3) (mo 0 8) (nd (mo 3) (mo 0 8) (nd (mo 3) (mo 0 8) (sp.1 + 1, sp.2) 104) 97) 114) 103) 101) 32) 1).2) 32) 1 (nd_b _ _ _ _ (by first | assumption | (dsimp only [inS]; omega)) (by omega))
        refine v_iast X hM h_mo 4 rfl (by omega) (by omega) (by omega) (Or.inl (fsH (by omega) (by omega))) dX10_command_188 189 rfl (ws' := modelW E b (updC (updC mo 0 (updZ (updZ (updZ (mo 0) 9 (((nm ((mo 3)) (mo 0 8) (nd ((mo 3)) (mo 0 8) ((nm (mo 3) (mo 0 8) (nd (mo 3) (mo 0 8) (nd (mo 3) (mo 0 8) (nd (mo 3) (mo 0 8) (nd (mo 3) (mo 0 8) (nd (mo 3) (mo 0 8) (nd (mo 3) (mo 0 8) (sp.1 + 1, sp.2) 104) 97) 114) 103) 101) 32) 1).2) 32) 1).2).1)) 10 (((nm ((mo 3)) (mo 0 8) (nd ((mo 3)) (mo 0 8) ((nm (mo 3) (mo 0 8) (nd (mo 3) (mo 0 8) (nd (mo 3) (mo 0 8) (nd (mo 3) (mo 0 8) (nd (mo 3) (mo 0 8) (nd (mo 3) (mo 0 8) (nd (mo 3) (mo 0 8) (sp.1 + 1, sp.2) 104) 97) 114) 103) 101) 32) 1).2) 32) 1).2).2)) 15 (si + 1))) 4 (updZ (updZ (updZ (clB (mo 4) (5 * si) i) (5 * si) 99) (5 * si + 1) ((nm (mo 3) (mo 0 8) (nd (mo 3) (mo 0 8) (nd (mo 3) (mo 0 8) (nd (mo 3) (mo 0 8) (nd (mo 3) (mo 0 8) (nd (mo 3) (mo 0 8) (nd (mo 3) (mo 0 8) (sp.1 + 1, sp.2) 104) 97) 114) 103) 101) 32) 1).1)) (5 * si + 2) ((nm (mo 3) (mo 0 8) (nd (mo 3) (mo 0 8) ((nm (mo 3) (mo 0 8) (nd (mo 3) (mo 0 8) (nd (mo 3) (mo 0 8) (nd (mo 3) (mo 0 8) (nd (mo 3) (mo 0 8) (nd (mo 3) (mo 0 8) (nd (mo 3) (mo 0 8) (sp.1 + 1, sp.2) 104) 97) 114) 103) 101) 32) 1).2) 32) 1).1)))) rfl (fun H16 lo16 hzz hM hF h_mo => ?_)
        clear hzz
        refine v_goto X dX10_command_189 269 (by decide) ?_
        subst hQ; exact m_vret X hr hlk hM dX10_command_269 rfl ⟨rfl, (PR.to h_mo (by rw [h5]))⟩
      · skip
        exfalso; omega
    · skip
      exfalso; omega
  · skip
    refine v_aload_n X dX10_command_29 30 rfl 3 rfl ?_
    refine v_getf X hM.C h_mo.1 inX10 0 rfl rfl 14 (by decide) kf_X10_27 (fun _ h => h) rfl dX10_command_30 33 rfl ?_
    refine v_iload_n X dX10_command_33 34 rfl 2 rfl ?_
    refine v_iload_n X dX10_command_34 35 rfl 0 rfl ?_
    refine v_iadd X dX10_command_35 36 rfl ?_
    refine v_iconst X dX10_command_36 37 rfl ?_
    refine v_iast X hM h_mo 4 rfl (by omega) (by omega) (by omega) (Or.inl (fsH (by omega) (by omega))) dX10_command_37 38 rfl (ws' := modelW E b (updC (updC mo 0 (updZ (updZ (updZ (mo 0) 9 sp.1) 10 sp.2) 15 (si + 1))) 4 (updZ (clB (mo 4) (5 * si) i) (5 * si + (i : Int)) 0))) rfl (fun H17 lo17 hzz hM hF h_mo => ?_)
    clear hzz
    refine v_iinc X dX10_command_38 41 rfl 0 rfl (by decide) (L' := [(3, .int (zI ((i : Int) + 1))), (2, .int (zI (sgM (mo 3) (mo 0 8) sp.1))), (1, .int (zI (5 * si))), (0, .ref b)]) rfl ?_
    refine v_goto X dX10_command_41 24 (by decide) ?_
    exact V_L (L' := [(3, .int (zI ((i + 1 : Nat) : Int))), (2, .int (zI (sgM (mo 3) (mo 0 8) sp.1))), (1, .int (zI (5 * si))), (0, .ref b)]) (LC (vz (by omega)) (LC rfl (LC rfl (LC rfl rfl)))) (ih_i (by omega) _ _ hM (PR.to h_mo (by rw [clB_s])))
set_option maxHeartbeats 4000000 in
set_option maxRecDepth 20000 in
theorem c_X10_command_w (l : Launch) (E : Nat → Nat → Nat) (b : Nat) (mo : Nat → Int → Int) (sp : Int × Int) (si : Int) (hcr : ∀ j : Int, 0 ≤ j → j < mo 0 8 → 0 ≤ mo 3 j ∧ mo 3 j < 128) (hn : 0 ≤ mo 0 8 ∧ mo 0 8 ≤ 60) (e9 : mo 0 9 = sp.1) (e10 : mo 0 10 = sp.2) (bs : inS (mo 0 8) sp) (hse : sp.2 = -1) (hsi : mo 0 15 = si) (si0 : 0 ≤ si) (si1 : si < 61) (hf1 : sgM (mo 3) (mo 0 8) sp.1 = 119) : Mu l yX10_command cX10_command 4 none 4 0 0 E [(b, 5)] [.ref b] (fun H => PR E b (modelW E b mo) H) (fun rv H => rv = none ∧ PR E b (modelW E b (updC (updC mo 0 (updZ (updZ (updZ (mo 0) 9 (((nm (mo 3) (mo 0 8) (nd (mo 3) (mo 0 8) (nd (mo 3) (mo 0 8) (nd (mo 3) (mo 0 8) (nd (mo 3) (mo 0 8) (nd (mo 3) (mo 0 8) (nd (mo 3) (mo 0 8) (nd (mo 3) (mo 0 8) (sp.1 + 1, sp.2) 105) 116) 110) 101) 115) 115) 32) 1).2).1)) 10 (((nm (mo 3) (mo 0 8) (nd (mo 3) (mo 0 8) (nd (mo 3) (mo 0 8) (nd (mo 3) (mo 0 8) (nd (mo 3) (mo 0 8) (nd (mo 3) (mo 0 8) (nd (mo 3) (mo 0 8) (nd (mo 3) (mo 0 8) (sp.1 + 1, sp.2) 105) 116) 110) 101) 115) 115) 32) 1).2).2)) 15 (si + 1))) 4 (updZ (updZ (clB (mo 4) (5 * si) 5) (5 * si) 119) (5 * si + 1) (nm (mo 3) (mo 0 8) (nd (mo 3) (mo 0 8) (nd (mo 3) (mo 0 8) (nd (mo 3) (mo 0 8) (nd (mo 3) (mo 0 8) (nd (mo 3) (mo 0 8) (nd (mo 3) (mo 0 8) (nd (mo 3) (mo 0 8) (sp.1 + 1, sp.2) 105) 116) 110) 101) 115) 115) 32) 1).1))) H) := by
  refine Mu.start (own := RX10) rfl (by decide +kernel) (Nat.le_of_ble_eq_true rfl) ?_
  intro p e s m below meth cd args Q hQ X hr hlk hnm hM hPr
  have h_mo := hPr
  have hbs := bs
  dsimp only [inS] at hbs
  replace h_mo : PR E b (modelW E b (updC mo 0 (updZ (updZ (mo 0) 9 sp.1) 10 sp.2))) s.heap := PR.to h_mo (by rw [upd_2 e9 e10])
  refine v_iconst X dX10_command_0 1 rfl ?_
  refine v_aload_n X dX10_command_1 2 rfl 0 rfl ?_
  refine v_getf X hM.C h_mo.1 inX10 0 rfl rfl 15 (by decide) kf_X10_188 (fun _ h => h) rfl dX10_command_2 5 rfl ?_
  show V p l e (rmL 4 0 0) s m args below meth cd Q 4 s.heap [] 0 0 5 [(0, .ref b)] [.int (zI (mo 0 15)), .int (zI 5)]
  refine v_imul X dX10_command_5 6 rfl ?_
  refine V_S (st' := [.int (zI (5 * si))]) (by rw [hsi]) ?_
  refine v_istore_n X dX10_command_6 7 rfl rfl (by decide) (L' := [(1, .int (zI (5 * si))), (0, .ref b)]) rfl ?_
  refine v_aload_n X dX10_command_7 8 rfl 1 rfl ?_
  refine v_dup X dX10_command_8 9 rfl rfl ?_
  refine v_getf X hM.C h_mo.1 inX10 0 rfl rfl 15 (by decide) kf_X10_188 (fun _ h => h) rfl dX10_command_9 12 rfl ?_
  show V p l e (rmL 4 0 0) s m args below meth cd Q 4 s.heap [] 0 0 12 [(1, .int (zI (5 * si))), (0, .ref b)] [.int (zI (mo 0 15)), .ref b]
  refine v_iconst X dX10_command_12 13 rfl ?_
  refine v_iadd X dX10_command_13 14 rfl ?_
  refine v_putf X hM h_mo ftX10 0 rfl rfl 15 (by decide) kf_X10_188 (fun _ h => h) rfl rfl rfl (Nat.le_of_ble_eq_true rfl) (Or.inl (fsH (by omega) (by omega))) dX10_command_14 17 rfl (ws' := modelW E b (updC mo 0 (updZ (updZ (updZ (mo 0) 9 sp.1) 10 sp.2) 15 (mo 0 15 + 1)))) rfl (fun H1 lo1 hzz hM hF h_mo => ?_)
  clear hzz
  rw [hsi] at h_mo
  refine v_aload_n X dX10_command_17 18 rfl 1 rfl ?_
  refine v_rdV X hM.C h_mo.1 (c_X10_sign l E b (updC mo 0 (updZ (updZ (updZ (mo 0) 9 sp.1) 10 sp.2) 15 (si + 1))) sp hcr hn (by first | rfl | assumption) bs) kvX10_sign kiX10_sign kl_X10_175 rfl rfl (As := []) rfl rfl rfl dX10_command_18 21 rfl ?_
  show V p l e (rmL 4 0 0) s m args below meth cd Q 4 H1 lo1 0 0 21 [(1, .int (zI (5 * si))), (0, .ref b)] [.int (zI (sgM (mo 3) (mo 0 8) sp.1))]
  have hf_2 := sgM_b ((mo 3)) (mo 0 8) sp.1 hcr (by first | omega | (dsimp only; omega))
  refine v_istore_n X dX10_command_21 22 rfl rfl (by decide) (L' := [(2, .int (zI (sgM (mo 3) (mo 0 8) sp.1))), (1, .int (zI (5 * si))), (0, .ref b)]) rfl ?_
  refine v_iconst X dX10_command_22 23 rfl ?_
  refine v_istore_n X dX10_command_23 24 rfl rfl (by decide) (L' := [(3, .int (zI 0)), (2, .int (zI (sgM (mo 3) (mo 0 8) sp.1))), (1, .int (zI (5 * si))), (0, .ref b)]) rfl ?_
  refine V_L (L' := [(3, .int (zI 0)), (2, .int (zI (sgM (mo 3) (mo 0 8) sp.1))), (1, .int (zI (5 * si))), (0, .ref b)]) (LC (vz (by rfl)) (LC rfl (LC rfl (LC rfl rfl)))) ?_
  refine up_loop 5 (P := fun (i : Nat) => ∀ (H : Heap) (lo : List Loc), MS E [(b, 5)] s H lo → PR E b (modelW E b (updC (updC mo 0 (updZ (updZ (updZ (mo 0) 9 sp.1) 10 sp.2) 15 (si + 1))) 4 (clB (mo 4) (5 * si) i))) H → V p l e (rmL 4 0 0) s m args below meth cd Q 4 H lo 0 0 24 [(3, .int (zI (i : Int))), (2, .int (zI (sgM (mo 3) (mo 0 8) sp.1))), (1, .int (zI (5 * si))), (0, .ref b)] []) (fun i hi_i ih_i H3 lo3 hM h_mo => ?_) _ _ hM (PR.to h_mo (by rw [clB_0]; rfl))
  refine v_iload_n X dX10_command_24 25 rfl 0 rfl ?_
  refine v_iconst X dX10_command_25 26 rfl ?_
  refine v_icmp_ge X (by omega) (by omega) dX10_command_26 29 44 rfl (by decide) (fun c_4 => ?_) (fun c_4 => ?_)
  · skip
    have h5 : i = 5 := by omega
    refine v_iload_n X dX10_command_44 45 rfl 1 rfl ?_
    refine v_bipush X dX10_command_45 47 rfl rfl ?_
    refine v_icmp_eq X (by omega) (by omega) dX10_command_47 50 89 rfl (by decide) (fun c_5 => ?_) (fun c_5 => ?_)
    · skip
      exfalso; omega
    · skip
      refine v_iload_n X dX10_command_50 51 rfl 1 rfl ?_
      refine v_bipush X dX10_command_51 53 rfl rfl ?_
      refine v_icmp_eq X (by omega) (by omega) dX10_command_53 56 89 rfl (by decide) (fun c_6 => ?_) (fun c_6 => ?_)
      · skip
        have hlt := sgM_lt (g := mo 3) (n := mo 0 8) (h := sp.1) (by omega)
        refine v_aload_n X dX10_command_89 90 rfl 3 rfl ?_
        refine v_dup X dX10_command_90 91 rfl rfl ?_
        refine v_getf X hM.C h_mo.1 inX10 0 rfl rfl 9 (by decide) kf_X10_169 (fun _ h => h) rfl dX10_command_91 94 rfl ?_
        show V p l e (rmL 4 0 0) s m args below meth cd Q 4 H3 lo3 0 0 94 [(3, .int (zI (i : Int))), (2, .int (zI (sgM (mo 3) (mo 0 8) sp.1))), (1, .int (zI (5 * si))), (0, .ref b)] [.int (zI sp.1), .ref b]
        refine v_iconst X dX10_command_94 95 rfl ?_
        refine v_iadd X dX10_command_95 96 rfl ?_
        refine v_putf X hM h_mo ftX10 0 rfl rfl 9 (by decide) kf_X10_169 (fun _ h => h) rfl rfl rfl (Nat.le_of_ble_eq_true rfl) (Or.inl (fsH (by omega) (by omega))) dX10_command_96 99 rfl (ws' := modelW E b (updC (updC mo 0 (updZ (updZ (updZ (mo 0) 9 (sp.1 + 1)) 10 sp.2) 15 (si + 1))) 4 (clB (mo 4) (5 * si) i))) rfl (fun H7 lo7 hzz hM hF h_mo => ?_)
        clear hzz
        refine v_aload_n X dX10_command_99 100 rfl 3 rfl ?_
        refine v_iload_n X dX10_command_100 101 rfl 1 rfl ?_
        refine V_S (st' := [.int (zI 119), .ref b]) (by rw [hf1]) ?_
        refine v_muV X hM (h_mo.1) (c_X10_word_119 l E b (updC (updC mo 0 (updZ (updZ (updZ (mo 0) 9 (sp.1 + 1)) 10 sp.2) 15 (si + 1))) 4 (clB (mo 4) (5 * si) i)) (sp.1 + 1, sp.2) hcr hn (by first | rfl | assumption) (by first | rfl | assumption) (show inS (mo 0 8) (sp.1 + 1, sp.2) from (by first | assumption | (dsimp only [inS]; omega)))) kvX10_word kiX10_word kl_X10_191 (q0 := 0) rfl rfl (As := [.int (zI 119)]) rfl rfl rfl dX10_command_101 104 rfl (k' := 0) (n' := 0) rfl rfl (fsI (fun q q1 q2 => (Or.inl (fsH (by omega) (by omega))))) h_mo (fun rv H8 lo8 hM hF hpo => ?_)
        obtain ⟨rfl, hw_0⟩ := hpo
        have h_mo : PR E b (modelW E b (updC (updC mo 0 (updZ (updZ (updZ (mo 0) 9 ((nd ((mo 3)) (mo 0 8) (nd ((mo 3)) (mo 0 8) (nd ((mo 3)) (mo 0 8) (nd ((mo 3)) (mo 0 8) (nd ((mo 3)) (mo 0 8) (nd ((mo 3)) (mo 0 8) (sp.1 + 1, sp.2) 105) 116) 110) 101) 115) 115).1)) 10 ((nd ((mo 3)) (mo 0 8) (nd ((mo 3)) (mo 0 8) (nd ((mo 3)) (mo 0 8) (nd ((mo 3)) (mo 0 8) (nd ((mo 3)) (mo 0 8) (nd ((mo 3)) (mo 0 8) (sp.1 + 1, sp.2) 105) 116) 110) 101) 115) 115).2)) 15 (si + 1))) 4 (clB (mo 4) (5 * si) i))) H8 := hw_0
        show V p l e (rmL 4 0 0) s m args below meth cd Q 4 H8 lo8 0 0 104 [(3, .int (zI (i : Int))), (2, .int (zI (sgM (mo 3) (mo 0 8) sp.1))), (1, .int (zI (5 * si))), (0, .ref b)] [.int (zI 119)]
        have hf_9 := ((nd_b _ _ _ _ (nd_b _ _ _ _ (nd_b _ _ _ _ (nd_b _ _ _ _ (nd_b _ _ _ _ (nd_b _ _ _ _ (by first | assumption | (dsimp only [inS]; omega)) (by omega)) (by omega)) (by omega)) (by omega)) (by omega)) (by omega)) : inS (mo 0 8) (nd ((mo 3)) (mo 0 8) (nd ((mo 3)) (mo 0 8) (nd ((mo 3)) (mo 0 8) (nd ((mo 3)) (mo 0 8) (nd ((mo 3)) (mo 0 8) (nd ((mo 3)) (mo 0 8) (sp.1 + 1, sp.2) 105) 116) 110) 101) 115) 115))
        refine v_istore_n X dX10_command_104 105 rfl rfl (by decide) (L' := [(3, .int (zI 119)), (2, .int (zI (sgM (mo 3) (mo 0 8) sp.1))), (1, .int (zI (5 * si))), (0, .ref b)]) rfl ?_
        refine v_aload_n X dX10_command_105 106 rfl 3 rfl ?_
        refine v_getf X hM.C h_mo.1 inX10 0 rfl rfl 14 (by decide) kf_X10_27 (fun _ h => h) rfl dX10_command_106 109 rfl ?_
        refine v_iload_n X dX10_command_109 110 rfl 2 rfl ?_
        refine v_iload_n X dX10_command_110 111 rfl 0 rfl ?_
        refine v_iast X hM h_mo 4 rfl (by omega) (by omega) (by omega) (Or.inl (fsH (by omega) (by omega))) dX10_command_111 112 rfl (ws' := modelW E b (updC (updC mo 0 (updZ (updZ (updZ (mo 0) 9 ((nd ((mo 3)) (mo 0 8) (nd ((mo 3)) (mo 0 8) (nd ((mo 3)) (mo 0 8) (nd ((mo 3)) (mo 0 8) (nd ((mo 3)) (mo 0 8) (nd ((mo 3)) (mo 0 8) (sp.1 + 1, sp.2) 105) 116) 110) 101) 115) 115).1)) 10 ((nd ((mo 3)) (mo 0 8) (nd ((mo 3)) (mo 0 8) (nd ((mo 3)) (mo 0 8) (nd ((mo 3)) (mo 0 8) (nd ((mo 3)) (mo 0 8) (nd ((mo 3)) (mo 0 8) (sp.1 + 1, sp.2) 105) 116) 110) 101) 115) 115).2)) 15 (si + 1))) 4 (updZ (clB (mo 4) (5 * si) i) (5 * si) 119))) rfl (fun H10 lo10 hzz hM hF h_mo => ?_)
        clear hzz
        refine v_aload_n X dX10_command_112 113 rfl 3 rfl ?_
        refine v_getf X hM.C h_mo.1 inX10 0 rfl rfl 14 (by decide) kf_X10_27 (fun _ h => h) rfl dX10_command_113 116 rfl ?_
        refine v_iload_n X dX10_command_116 117 rfl 2 rfl ?_
        refine v_iconst X dX10_command_117 118 rfl ?_
        refine v_iadd X dX10_command_118 119 rfl ?_
        refine v_aload_n X dX10_command_119 120 rfl 3 rfl ?_
        refine v_iload_n X dX10_command_120 121 rfl 0 rfl ?_
        refine v_bipush X dX10_command_121 123 rfl rfl ?_
        refine v_icmp_eq X (by omega) (by omega) dX10_command_123 126 132 rfl (by decide) (fun c_11 => ?_) (fun c_11 => ?_)
        · skip
          exfalso; omega
        · skip
          refine v_iload_n X dX10_command_126 127 rfl 0 rfl ?_
          refine v_bipush X dX10_command_127 129 rfl rfl ?_
          refine v_icmp_ne X (by omega) (by omega) dX10_command_129 132 136 rfl (by decide) (fun c_12 => ?_) (fun c_12 => ?_)
          · skip
            exfalso; omega
          · skip
            refine v_iconst X dX10_command_132 133 rfl ?_
            refine v_goto X dX10_command_133 137 (by decide) ?_
            refine v_muV X hM (h_mo.1) (c_X10_behind_1 l E b (updC (updC mo 0 (updZ (updZ (updZ (mo 0) 9 ((nd ((mo 3)) (mo 0 8) (nd ((mo 3)) (mo 0 8) (nd ((mo 3)) (mo 0 8) (nd ((mo 3)) (mo 0 8) (nd ((mo 3)) (mo 0 8) (nd ((mo 3)) (mo 0 8) (sp.1 + 1, sp.2) 105) 116) 110) 101) 115) 115).1)) 10 ((nd ((mo 3)) (mo 0 8) (nd ((mo 3)) (mo 0 8) (nd ((mo 3)) (mo 0 8) (nd ((mo 3)) (mo 0 8) (nd ((mo 3)) (mo 0 8) (nd ((mo 3)) (mo 0 8) (sp.1 + 1, sp.2) 105) 116) 110) 101) 115) 115).2)) 15 (si + 1))) 4 (updZ (clB (mo 4) (5 * si) i) (5 * si) 119)) (nd (mo 3) (mo 0 8) (nd (mo 3) (mo 0 8) (nd (mo 3) (mo 0 8) (nd (mo 3) (mo 0 8) (nd (mo 3) (mo 0 8) (nd (mo 3) (mo 0 8) (sp.1 + 1, sp.2) 105) 116) 110) 101) 115) 115) hcr hn (by first | rfl | assumption) (by first | rfl | assumption) (show inS (mo 0 8) (nd (mo 3) (mo 0 8) (nd (mo 3) (mo 0 8) (nd (mo 3) (mo 0 8) (nd (mo 3) (mo 0 8) (nd (mo 3) (mo 0 8) (nd (mo 3) (mo 0 8) (sp.1 + 1, sp.2) 105) 116) 110) 101) 115) 115) from (by first | assumption | (dsimp only [inS]; omega)))) kvX10_behind kiX10_behind kl_X10_194 (q0 := 0) rfl rfl (As := [.int (zI 1)]) rfl rfl rfl dX10_command_137 140 rfl (k' := 0) (n' := 0) rfl rfl (fsI (fun q q1 q2 => (Or.inl (fsH (by omega) (by omega))))) h_mo (fun rv H13 lo13 hM hF hpo => ?_)
            obtain ⟨rfl, hw_0⟩ := hpo
            have h_mo : PR E b (modelW E b (updC (updC mo 0 (updZ (updZ (updZ (mo 0) 9 (((nm ((mo 3)) (mo 0 8) (nd ((mo 3)) (mo 0 8) (nd (mo 3) (mo 0 8) (nd (mo 3) (mo 0 8) (nd (mo 3) (mo 0 8) (nd (mo 3) (mo 0 8) (nd (mo 3) (mo 0 8) (nd (mo 3) (mo 0 8) (sp.1 + 1, sp.2) 105) 116) 110) 101) 115) 115) 32) 1).2).1)) 10 (((nm ((mo 3)) (mo 0 8) (nd ((mo 3)) (mo 0 8) (nd (mo 3) (mo 0 8) (nd (mo 3) (mo 0 8) (nd (mo 3) (mo 0 8) (nd (mo 3) (mo 0 8) (nd (mo 3) (mo 0 8) (nd (mo 3) (mo 0 8) (sp.1 + 1, sp.2) 105) 116) 110) 101) 115) 115) 32) 1).2).2)) 15 (si + 1))) 4 (updZ (clB (mo 4) (5 * si) i) (5 * si) 119))) H13 := hw_0
            show V p l e (rmL 4 0 0) s m args below meth cd Q 4 H13 lo13 0 0 140 [(3, .int (zI 119)), (2, .int (zI (sgM (mo 3) (mo 0 8) sp.1))), (1, .int (zI (5 * si))), (0, .ref b)] [.int (zI ((nm (mo 3) (mo 0 8) (nd (mo 3) (mo 0 8) (nd (mo 3) (mo 0 8) (nd (mo 3) (mo 0 8) (nd (mo 3) (mo 0 8) (nd (mo 3) (mo 0 8) (nd (mo 3) (mo 0 8) (nd (mo 3) (mo 0 8) (sp.1 + 1, sp.2) 105) 116) 110) 101) 115) 115) 32) 1).1)), .int (zI (5 * si + 1)), .ref (b + 4)]
            have hf_14 := nm_b ((mo 3)) (mo 0 8) (nd ((mo 3)) (mo 0 8) (nd (mo 3) (mo 0 8) (nd (mo 3) (mo 0 8) (nd (mo 3) (mo 0 8) (nd (mo 3) (mo 0 8) (nd (mo 3) (mo 0 8) (nd (mo 3) (mo 0 8) (sp.1 + 1, sp.2) 105) 116) 110) 101) 115) 115) 32) 1 (nd_b _ _ _ _ (by first | assumption | (dsimp only [inS]; omega)) (by omega))
            refine v_iast X hM h_mo 4 rfl (by omega) (by omega) (by omega) (Or.inl (fsH (by omega) (by omega))) dX10_command_140 141 rfl (ws' := modelW E b (updC (updC mo 0 (updZ (updZ (updZ (mo 0) 9 (((nm ((mo 3)) (mo 0 8) (nd ((mo 3)) (mo 0 8) (nd (mo 3) (mo 0 8) (nd (mo 3) (mo 0 8) (nd (mo 3) (mo 0 8) (nd (mo 3) (mo 0 8) (nd (mo 3) (mo 0 8) (nd (mo 3) (mo 0 8) (sp.1 + 1, sp.2) 105) 116) 110) 101) 115) 115) 32) 1).2).1)) 10 (((nm ((mo 3)) (mo 0 8) (nd ((mo 3)) (mo 0 8) (nd (mo 3) (mo 0 8) (nd (mo 3) (mo 0 8) (nd (mo 3) (mo 0 8) (nd (mo 3) (mo 0 8) (nd (mo 3) (mo 0 8) (nd (mo 3) (mo 0 8) (sp.1 + 1, sp.2) 105) 116) 110) 101) 115) 115) 32) 1).2).2)) 15 (si + 1))) 4 (updZ (updZ (clB (mo 4) (5 * si) i) (5 * si) 119) (5 * si + 1) ((nm (mo 3) (mo 0 8) (nd (mo 3) (mo 0 8) (nd (mo 3) (mo 0 8) (nd (mo 3) (mo 0 8) (nd (mo 3) (mo 0 8) (nd (mo 3) (mo 0 8) (nd (mo 3) (mo 0 8) (nd (mo 3) (mo 0 8) (sp.1 + 1, sp.2) 105) 116) 110) 101) 115) 115) 32) 1).1)))) rfl (fun H15 lo15 hzz hM hF h_mo => ?_)
            clear hzz
            refine v_iload_n X dX10_command_141 142 rfl 0 rfl ?_
            refine v_lookup X dX10_command_142 (by decide) (off := 127) (by decide) 269 (by decide) ?_
            subst hQ; exact m_vret X hr hlk hM dX10_command_269 rfl ⟨rfl, (PR.to h_mo (by rw [h5]))⟩
      · skip
        exfalso; omega
  · skip
    refine v_aload_n X dX10_command_29 30 rfl 3 rfl ?_
    refine v_getf X hM.C h_mo.1 inX10 0 rfl rfl 14 (by decide) kf_X10_27 (fun _ h => h) rfl dX10_command_30 33 rfl ?_
    refine v_iload_n X dX10_command_33 34 rfl 2 rfl ?_
    refine v_iload_n X dX10_command_34 35 rfl 0 rfl ?_
    refine v_iadd X dX10_command_35 36 rfl ?_
    refine v_iconst X dX10_command_36 37 rfl ?_
    refine v_iast X hM h_mo 4 rfl (by omega) (by omega) (by omega) (Or.inl (fsH (by omega) (by omega))) dX10_command_37 38 rfl (ws' := modelW E b (updC (updC mo 0 (updZ (updZ (updZ (mo 0) 9 sp.1) 10 sp.2) 15 (si + 1))) 4 (updZ (clB (mo 4) (5 * si) i) (5 * si + (i : Int)) 0))) rfl (fun H16 lo16 hzz hM hF h_mo => ?_)
    clear hzz
    refine v_iinc X dX10_command_38 41 rfl 0 rfl (by decide) (L' := [(3, .int (zI ((i : Int) + 1))), (2, .int (zI (sgM (mo 3) (mo 0 8) sp.1))), (1, .int (zI (5 * si))), (0, .ref b)]) rfl ?_
    refine v_goto X dX10_command_41 24 (by decide) ?_
    exact V_L (L' := [(3, .int (zI ((i + 1 : Nat) : Int))), (2, .int (zI (sgM (mo 3) (mo 0 8) sp.1))), (1, .int (zI (5 * si))), (0, .ref b)]) (LC (vz (by omega)) (LC rfl (LC rfl (LC rfl rfl)))) (ih_i (by omega) _ _ hM (PR.to h_mo (by rw [clB_s])))
set_option maxHeartbeats 4000000 in
set_option maxRecDepth 20000 in
theorem c_X10_command_t (l : Launch) (E : Nat → Nat → Nat) (b : Nat) (mo : Nat → Int → Int) (sp : Int × Int) (si : Int) (hcr : ∀ j : Int, 0 ≤ j → j < mo 0 8 → 0 ≤ mo 3 j ∧ mo 3 j < 128) (hn : 0 ≤ mo 0 8 ∧ mo 0 8 ≤ 60) (e9 : mo 0 9 = sp.1) (e10 : mo 0 10 = sp.2) (bs : inS (mo 0 8) sp) (hse : sp.2 = -1) (hsi : mo 0 15 = si) (si0 : 0 ≤ si) (si1 : si < 61) (hf1 : sgM (mo 3) (mo 0 8) sp.1 = 116) : Mu l yX10_command cX10_command 4 none 4 0 0 E [(b, 5)] [.ref b] (fun H => PR E b (modelW E b mo) H) (fun rv H => rv = none ∧ PR E b (modelW E b (updC (updC mo 0 (updZ (updZ (updZ (mo 0) 9 (((nm (mo 3) (mo 0 8) ((ei (mo 3) (mo 0 8) ((nm (mo 3) (mo 0 8) (nd (mo 3) (mo 0 8) ((nm (mo 3) (mo 0 8) (nd (mo 3) (mo 0 8) (nd (mo 3) (mo 0 8) (nd (mo 3) (mo 0 8) (nd (mo 3) (mo 0 8) (nd (mo 3) (mo 0 8) (nd (mo 3) (mo 0 8) (nd (mo 3) (mo 0 8) (sp.1 + 1, sp.2) 101) 115) 116) 105) 102) 121) 32) 2).2) 32) 1).2) 43 45).2) 1).2).1)) 10 (((nm (mo 3) (mo 0 8) ((ei (mo 3) (mo 0 8) ((nm (mo 3) (mo 0 8) (nd (mo 3) (mo 0 8) ((nm (mo 3) (mo 0 8) (nd (mo 3) (mo 0 8) (nd (mo 3) (mo 0 8) (nd (mo 3) (mo 0 8) (nd (mo 3) (mo 0 8) (nd (mo 3) (mo 0 8) (nd (mo 3) (mo 0 8) (nd (mo 3) (mo 0 8) (sp.1 + 1, sp.2) 101) 115) 116) 105) 102) 121) 32) 2).2) 32) 1).2) 43 45).2) 1).2).2)) 15 (si + 1))) 4 (updZ (updZ (updZ (updZ (updZ (clB (mo 4) (5 * si) 5) (5 * si) 116) (5 * si + 1) (nm (mo 3) (mo 0 8) (nd (mo 3) (mo 0 8) (nd (mo 3) (mo 0 8) (nd (mo 3) (mo 0 8) (nd (mo 3) (mo 0 8) (nd (mo 3) (mo 0 8) (nd (mo 3) (mo 0 8) (nd (mo 3) (mo 0 8) (sp.1 + 1, sp.2) 101) 115) 116) 105) 102) 121) 32) 2).1) (5 * si + 2) (nm (mo 3) (mo 0 8) (nd (mo 3) (mo 0 8) ((nm (mo 3) (mo 0 8) (nd (mo 3) (mo 0 8) (nd (mo 3) (mo 0 8) (nd (mo 3) (mo 0 8) (nd (mo 3) (mo 0 8) (nd (mo 3) (mo 0 8) (nd (mo 3) (mo 0 8) (nd (mo 3) (mo 0 8) (sp.1 + 1, sp.2) 101) 115) 116) 105) 102) 121) 32) 2).2) 32) 1).1) (5 * si + 3) (ei (mo 3) (mo 0 8) ((nm (mo 3) (mo 0 8) (nd (mo 3) (mo 0 8) ((nm (mo 3) (mo 0 8) (nd (mo 3) (mo 0 8) (nd (mo 3) (mo 0 8) (nd (mo 3) (mo 0 8) (nd (mo 3) (mo 0 8) (nd (mo 3) (mo 0 8) (nd (mo 3) (mo 0 8) (nd (mo 3) (mo 0 8) (sp.1 + 1, sp.2) 101) 115) 116) 105) 102) 121) 32) 2).2) 32) 1).2) 43 45).1) (5 * si + 4) (nm (mo 3) (mo 0 8) ((ei (mo 3) (mo 0 8) ((nm (mo 3) (mo 0 8) (nd (mo 3) (mo 0 8) ((nm (mo 3) (mo 0 8) (nd (mo 3) (mo 0 8) (nd (mo 3) (mo 0 8) (nd (mo 3) (mo 0 8) (nd (mo 3) (mo 0 8) (nd (mo 3) (mo 0 8) (nd (mo 3) (mo 0 8) (nd (mo 3) (mo 0 8) (sp.1 + 1, sp.2) 101) 115) 116) 105) 102) 121) 32) 2).2) 32) 1).2) 43 45).2) 1).1))) H) := by
  refine Mu.start (own := RX10) rfl (by decide +kernel) (Nat.le_of_ble_eq_true rfl) ?_
  intro p e s m below meth cd args Q hQ X hr hlk hnm hM hPr
  have h_mo := hPr
  have hbs := bs
  dsimp only [inS] at hbs
  replace h_mo : PR E b (modelW E b (updC mo 0 (updZ (updZ (mo 0) 9 sp.1) 10 sp.2))) s.heap := PR.to h_mo (by rw [upd_2 e9 e10])
  refine v_iconst X dX10_command_0 1 rfl ?_
  refine v_aload_n X dX10_command_1 2 rfl 0 rfl ?_
  refine v_getf X hM.C h_mo.1 inX10 0 rfl rfl 15 (by decide) kf_X10_188 (fun _ h => h) rfl dX10_command_2 5 rfl ?_
  show V p l e (rmL 4 0 0) s m args below meth cd Q 4 s.heap [] 0 0 5 [(0, .ref b)] [.int (zI (mo 0 15)), .int (zI 5)]
  refine v_imul X dX10_command_5 6 rfl ?_
  refine V_S (st' := [.int (zI (5 * si))]) (by rw [hsi]) ?_
  refine v_istore_n X dX10_command_6 7 rfl rfl (by decide) (L' := [(1, .int (zI (5 * si))), (0, .ref b)]) rfl ?_
  refine v_aload_n X dX10_command_7 8 rfl 1 rfl ?_
  refine v_dup X dX10_command_8 9 rfl rfl ?_
  refine v_getf X hM.C h_mo.1 inX10 0 rfl rfl 15 (by decide) kf_X10_188 (fun _ h => h) rfl dX10_command_9 12 rfl ?_
  show V p l e (rmL 4 0 0) s m args below meth cd Q 4 s.heap [] 0 0 12 [(1, .int (zI (5 * si))), (0, .ref b)] [.int (zI (mo 0 15)), .ref b]
  refine v_iconst X dX10_command_12 13 rfl ?_
  refine v_iadd X dX10_command_13 14 rfl ?_
  refine v_putf X hM h_mo ftX10 0 rfl rfl 15 (by decide) kf_X10_188 (fun _ h => h) rfl rfl rfl (Nat.le_of_ble_eq_true rfl) (Or.inl (fsH (by omega) (by omega))) dX10_command_14 17 rfl (ws' := modelW E b (updC mo 0 (updZ (updZ (updZ (mo 0) 9 sp.1) 10 sp.2) 15 (mo 0 15 + 1)))) rfl (fun H1 lo1 hzz hM hF h_mo => ?_)
  clear hzz
  rw [hsi] at h_mo
  refine v_aload_n X dX10_command_17 18 rfl 1 rfl ?_
  refine v_rdV X hM.C h_mo.1 (c_X10_sign l E b (updC mo 0 (updZ (updZ (updZ (mo 0) 9 sp.1) 10 sp.2) 15 (si + 1))) sp hcr hn (by first | rfl | assumption) bs) kvX10_sign kiX10_sign kl_X10_175 rfl rfl (As := []) rfl rfl rfl dX10_command_18 21 rfl ?_
  show V p l e (rmL 4 0 0) s m args below meth cd Q 4 H1 lo1 0 0 21 [(1, .int (zI (5 * si))), (0, .ref b)] [.int (zI (sgM (mo 3) (mo 0 8) sp.1))]
  have hf_2 := sgM_b ((mo 3)) (mo 0 8) sp.1 hcr (by first | omega | (dsimp only; omega))
  refine v_istore_n X dX10_command_21 22 rfl rfl (by decide) (L' := [(2, .int (zI (sgM (mo 3) (mo 0 8) sp.1))), (1, .int (zI (5 * si))), (0, .ref b)]) rfl ?_
  refine v_iconst X dX10_command_22 23 rfl ?_
  refine v_istore_n X dX10_command_23 24 rfl rfl (by decide) (L' := [(3, .int (zI 0)), (2, .int (zI (sgM (mo 3) (mo 0 8) sp.1))), (1, .int (zI (5 * si))), (0, .ref b)]) rfl ?_
  refine V_L (L' := [(3, .int (zI 0)), (2, .int (zI (sgM (mo 3) (mo 0 8) sp.1))), (1, .int (zI (5 * si))), (0, .ref b)]) (LC (vz (by rfl)) (LC rfl (LC rfl (LC rfl rfl)))) ?_
  refine up_loop 5 (P := fun (i : Nat) => ∀ (H : Heap) (lo : List Loc), MS E [(b, 5)] s H lo → PR E b (modelW E b (updC (updC mo 0 (updZ (updZ (updZ (mo 0) 9 sp.1) 10 sp.2) 15 (si + 1))) 4 (clB (mo 4) (5 * si) i))) H → V p l e (rmL 4 0 0) s m args below meth cd Q 4 H lo 0 0 24 [(3, .int (zI (i : Int))), (2, .int (zI (sgM (mo 3) (mo 0 8) sp.1))), (1, .int (zI (5 * si))), (0, .ref b)] []) (fun i hi_i ih_i H3 lo3 hM h_mo => ?_) _ _ hM (PR.to h_mo (by rw [clB_0]; rfl))
  refine v_iload_n X dX10_command_24 25 rfl 0 rfl ?_
  refine v_iconst X dX10_command_25 26 rfl ?_
  refine v_icmp_ge X (by omega) (by omega) dX10_command_26 29 44 rfl (by decide) (fun c_4 => ?_) (fun c_4 => ?_)
  · skip
    have h5 : i = 5 := by omega
    refine v_iload_n X dX10_command_44 45 rfl 1 rfl ?_
    refine v_bipush X dX10_command_45 47 rfl rfl ?_
    refine v_icmp_eq X (by omega) (by omega) dX10_command_47 50 89 rfl (by decide) (fun c_5 => ?_) (fun c_5 => ?_)
    · skip
      exfalso; omega
    · skip
      refine v_iload_n X dX10_command_50 51 rfl 1 rfl ?_
      refine v_bipush X dX10_command_51 53 rfl rfl ?_
      refine v_icmp_eq X (by omega) (by omega) dX10_command_53 56 89 rfl (by decide) (fun c_6 => ?_) (fun c_6 => ?_)
      · skip
        exfalso; omega
      · skip
        refine v_iload_n X dX10_command_56 57 rfl 1 rfl ?_
        refine v_bipush X dX10_command_57 59 rfl rfl ?_
        refine v_icmp_eq X (by omega) (by omega) dX10_command_59 62 89 rfl (by decide) (fun c_7 => ?_) (fun c_7 => ?_)
        · skip
          have hlt := sgM_lt (g := mo 3) (n := mo 0 8) (h := sp.1) (by omega)
          refine v_aload_n X dX10_command_89 90 rfl 3 rfl ?_
          refine v_dup X dX10_command_90 91 rfl rfl ?_
          refine v_getf X hM.C h_mo.1 inX10 0 rfl rfl 9 (by decide) kf_X10_169 (fun _ h => h) rfl dX10_command_91 94 rfl ?_
          show V p l e (rmL 4 0 0) s m args below meth cd Q 4 H3 lo3 0 0 94 [(3, .int (zI (i : Int))), (2, .int (zI (sgM (mo 3) (mo 0 8) sp.1))), (1, .int (zI (5 * si))), (0, .ref b)] [.int (zI sp.1), .ref b]
          refine v_iconst X dX10_command_94 95 rfl ?_
          refine v_iadd X dX10_command_95 96 rfl ?_
          refine v_putf X hM h_mo ftX10 0 rfl rfl 9 (by decide) kf_X10_169 (fun _ h => h) rfl rfl rfl (Nat.le_of_ble_eq_true rfl) (Or.inl (fsH (by omega) (by omega))) dX10_command_96 99 rfl (ws' := modelW E b (updC (updC mo 0 (updZ (updZ (updZ (mo 0) 9 (sp.1 + 1)) 10 sp.2) 15 (si + 1))) 4 (clB (mo 4) (5 * si) i))) rfl (fun H8 lo8 hzz hM hF h_mo => ?_)
          clear hzz
          refine v_aload_n X dX10_command_99 100 rfl 3 rfl ?_
          refine v_iload_n X dX10_command_100 101 rfl 1 rfl ?_
          refine V_S (st' := [.int (zI 116), .ref b]) (by rw [hf1]) ?_
          refine v_muV X hM (h_mo.1) (c_X10_word_116 l E b (updC (updC mo 0 (updZ (updZ (updZ (mo 0) 9 (sp.1 + 1)) 10 sp.2) 15 (si + 1))) 4 (clB (mo 4) (5 * si) i)) (sp.1 + 1, sp.2) hcr hn (by first | rfl | assumption) (by first | rfl | assumption) (show inS (mo 0 8) (sp.1 + 1, sp.2) from (by first | assumption | (dsimp only [inS]; omega)))) kvX10_word kiX10_word kl_X10_191 (q0 := 0) rfl rfl (As := [.int (zI 116)]) rfl rfl rfl dX10_command_101 104 rfl (k' := 0) (n' := 0) rfl rfl (fsI (fun q q1 q2 => (Or.inl (fsH (by omega) (by omega))))) h_mo (fun rv H9 lo9 hM hF hpo => ?_)
          obtain ⟨rfl, hw_0⟩ := hpo
          have h_mo : PR E b (modelW E b (updC (updC mo 0 (updZ (updZ (updZ (mo 0) 9 ((nd ((mo 3)) (mo 0 8) (nd ((mo 3)) (mo 0 8) (nd ((mo 3)) (mo 0 8) (nd ((mo 3)) (mo 0 8) (nd ((mo 3)) (mo 0 8) (nd ((mo 3)) (mo 0 8) (sp.1 + 1, sp.2) 101) 115) 116) 105) 102) 121).1)) 10 ((nd ((mo 3)) (mo 0 8) (nd ((mo 3)) (mo 0 8) (nd ((mo 3)) (mo 0 8) (nd ((mo 3)) (mo 0 8) (nd ((mo 3)) (mo 0 8) (nd ((mo 3)) (mo 0 8) (sp.1 + 1, sp.2) 101) 115) 116) 105) 102) 121).2)) 15 (si + 1))) 4 (clB (mo 4) (5 * si) i))) H9 := hw_0
          show V p l e (rmL 4 0 0) s m args below meth cd Q 4 H9 lo9 0 0 104 [(3, .int (zI (i : Int))), (2, .int (zI (sgM (mo 3) (mo 0 8) sp.1))), (1, .int (zI (5 * si))), (0, .ref b)] [.int (zI 116)]
          have hf_10 := ((nd_b _ _ _ _ (nd_b _ _ _ _ (nd_b _ _ _ _ (nd_b _ _ _ _ (nd_b _ _ _ _ (nd_b _ _ _ _ (by first | assumption | (dsimp only [inS]; omega)) (by omega)) (by omega)) (by omega)) (by omega)) (by omega)) (by omega)) : inS (mo 0 8) (nd ((mo 3)) (mo 0 8) (nd ((mo 3)) (mo 0 8) (nd ((mo 3)) (mo 0 8) (nd ((mo 3)) (mo 0 8) (nd ((mo 3)) (mo 0 8) (nd ((mo 3)) (mo 0 8) (sp.1 + 1, sp.2) 101) 115) 116) 105) 102) 121))
          refine v_istore_n X dX10_command_104 105 rfl rfl (by decide) (L' := [(3, .int (zI 116)), (2, .int (zI (sgM (mo 3) (mo 0 8) sp.1))), (1, .int (zI (5 * si))), (0, .ref b)]) rfl ?_
          refine v_aload_n X dX10_command_105 106 rfl 3 rfl ?_
          refine v_getf X hM.C h_mo.1 inX10 0 rfl rfl 14 (by decide) kf_X10_27 (fun _ h => h) rfl dX10_command_106 109 rfl ?_
          refine v_iload_n X dX10_command_109 110 rfl 2 rfl ?_
          refine v_iload_n X dX10_command_110 111 rfl 0 rfl ?_
          refine v_iast X hM h_mo 4 rfl (by omega) (by omega) (by omega) (Or.inl (fsH (by omega) (by omega))) dX10_command_111 112 rfl (ws' := modelW E b (updC (updC mo 0 (updZ (updZ (updZ (mo 0) 9 ((nd ((mo 3)) (mo 0 8) (nd ((mo 3)) (mo 0 8) (nd ((mo 3)) (mo 0 8) (nd ((mo 3)) (mo 0 8) (nd ((mo 3)) (mo 0 8) (nd ((mo 3)) (mo 0 8) (sp.1 + 1, sp.2) 101) 115) 116) 105) 102) 121).1)) 10 ((nd ((mo 3)) (mo 0 8) (nd ((mo 3)) (mo 0 8) (nd ((mo 3)) (mo 0 8) (nd ((mo 3)) (mo 0 8) (nd ((mo 3)) (mo 0 8) (nd ((mo 3)) (mo 0 8) (sp.1 + 1, sp.2) 101) 115) 116) 105) 102) 121).2)) 15 (si + 1))) 4 (updZ (clB (mo 4) (5 * si) i) (5 * si) 116))) rfl (fun H11 lo11 hzz hM hF h_mo => ?_)
          clear hzz
          refine v_aload_n X dX10_command_112 113 rfl 3 rfl ?_
          refine v_getf X hM.C h_mo.1 inX10 0 rfl rfl 14 (by decide) kf_X10_27 (fun _ h => h) rfl dX10_command_113 116 rfl ?_
          refine v_iload_n X dX10_command_116 117 rfl 2 rfl ?_
          refine v_iconst X dX10_command_117 118 rfl ?_
          refine v_iadd X dX10_command_118 119 rfl ?_
          refine v_aload_n X dX10_command_119 120 rfl 3 rfl ?_
          refine v_iload_n X dX10_command_120 121 rfl 0 rfl ?_
          refine v_bipush X dX10_command_121 123 rfl rfl ?_
          refine v_icmp_eq X (by omega) (by omega) dX10_command_123 126 132 rfl (by decide) (fun c_12 => ?_) (fun c_12 => ?_)
          · skip
            exfalso; omega
          · skip
            refine v_iload_n X dX10_command_126 127 rfl 0 rfl ?_
            refine v_bipush X dX10_command_127 129 rfl rfl ?_
            refine v_icmp_ne X (by omega) (by omega) dX10_command_129 132 136 rfl (by decide) (fun c_13 => ?_) (fun c_13 => ?_)
            · skip
              refine v_iconst X dX10_command_136 137 rfl ?_
              refine v_muV X hM (h_mo.1) (c_X10_behind_2 l E b (updC (updC mo 0 (updZ (updZ (updZ (mo 0) 9 ((nd ((mo 3)) (mo 0 8) (nd ((mo 3)) (mo 0 8) (nd ((mo 3)) (mo 0 8) (nd ((mo 3)) (mo 0 8) (nd ((mo 3)) (mo 0 8) (nd ((mo 3)) (mo 0 8) (sp.1 + 1, sp.2) 101) 115) 116) 105) 102) 121).1)) 10 ((nd ((mo 3)) (mo 0 8) (nd ((mo 3)) (mo 0 8) (nd ((mo 3)) (mo 0 8) (nd ((mo 3)) (mo 0 8) (nd ((mo 3)) (mo 0 8) (nd ((mo 3)) (mo 0 8) (sp.1 + 1, sp.2) 101) 115) 116) 105) 102) 121).2)) 15 (si + 1))) 4 (updZ (clB (mo 4) (5 * si) i) (5 * si) 116)) (nd (mo 3) (mo 0 8) (nd (mo 3) (mo 0 8) (nd (mo 3) (mo 0 8) (nd (mo 3) (mo 0 8) (nd (mo 3) (mo 0 8) (nd (mo 3) (mo 0 8) (sp.1 + 1, sp.2) 101) 115) 116) 105) 102) 121) hcr hn (by first | rfl | assumption) (by first | rfl | assumption) (show inS (mo 0 8) (nd (mo 3) (mo 0 8) (nd (mo 3) (mo 0 8) (nd (mo 3) (mo 0 8) (nd (mo 3) (mo 0 8) (nd (mo 3) (mo 0 8) (nd (mo 3) (mo 0 8) (sp.1 + 1, sp.2) 101) 115) 116) 105) 102) 121) from (by first | assumption | (dsimp only [inS]; omega)))) kvX10_behind kiX10_behind kl_X10_194 (q0 := 0) rfl rfl (As := [.int (zI 2)]) rfl rfl rfl dX10_command_137 140 rfl (k' := 0) (n' := 0) rfl rfl (fsI (fun q q1 q2 => (Or.inl (fsH (by omega) (by omega))))) h_mo (fun rv H14 lo14 hM hF hpo => ?_)
              obtain ⟨rfl, hw_0⟩ := hpo
              have h_mo : PR E b (modelW E b (updC (updC mo 0 (updZ (updZ (updZ (mo 0) 9 (((nm ((mo 3)) (mo 0 8) (nd ((mo 3)) (mo 0 8) (nd (mo 3) (mo 0 8) (nd (mo 3) (mo 0 8) (nd (mo 3) (mo 0 8) (nd (mo 3) (mo 0 8) (nd (mo 3) (mo 0 8) (nd (mo 3) (mo 0 8) (sp.1 + 1, sp.2) 101) 115) 116) 105) 102) 121) 32) 2).2).1)) 10 (((nm ((mo 3)) (mo 0 8) (nd ((mo 3)) (mo 0 8) (nd (mo 3) (mo 0 8) (nd (mo 3) (mo 0 8) (nd (mo 3) (mo 0 8) (nd (mo 3) (mo 0 8) (nd (mo 3) (mo 0 8) (nd (mo 3) (mo 0 8) (sp.1 + 1, sp.2) 101) 115) 116) 105) 102) 121) 32) 2).2).2)) 15 (si + 1))) 4 (updZ (clB (mo 4) (5 * si) i) (5 * si) 116))) H14 := hw_0
              show V p l e (rmL 4 0 0) s m args below meth cd Q 4 H14 lo14 0 0 140 [(3, .int (zI 116)), (2, .int (zI (sgM (mo 3) (mo 0 8) sp.1))), (1, .int (zI (5 * si))), (0, .ref b)] [.int (zI ((nm (mo 3) (mo 0 8) (nd (mo 3) (mo 0 8) (nd (mo 3) (mo 0 8) (nd (mo 3) (mo 0 8) (nd (mo 3) (mo 0 8) (nd (mo 3) (mo 0 8) (nd (mo 3) (mo 0 8) (nd (mo 3) (mo 0 8) (sp.1 + 1, sp.2) 101) 115) 116) 105) 102) 121) 32) 2).1)), .int (zI (5 * si + 1)), .ref (b + 4)]
              have hf_15 := nm_b ((mo 3)) (mo 0 8) (nd ((mo 3)) (mo 0 8) (nd (mo 3) (mo 0 8) (nd (mo 3) (mo 0 8) (nd (mo 3) (mo 0 8) (nd (mo 3) (mo 0 8) (nd (mo 3) (mo 0 8) (nd (mo 3) (mo 0 8) (sp.1 + 1, sp.2) 101) 115) 116) 105) 102) 121) 32) 2 (nd_b _ _ _ _ (by first | assumption | (dsimp only [inS]; omega)) (by omega))
              refine v_iast X hM h_mo 4 rfl (by omega) (by omega) (by omega) (Or.inl (fsH (by omega) (by omega))) dX10_command_140 141 rfl (ws' := modelW E b (updC (updC mo 0 (updZ (updZ (updZ (mo 0) 9 (((nm ((mo 3)) (mo 0 8) (nd ((mo 3)) (mo 0 8) (nd (mo 3) (mo 0 8) (nd (mo 3) (mo 0 8) (nd (mo 3) (mo 0 8) (nd (mo 3) (mo 0 8) (nd (mo 3) (mo 0 8) (nd (mo 3) (mo 0 8) (sp.1 + 1, sp.2) 101) 115) 116) 105) 102) 121) 32) 2).2).1)) 10 (((nm ((mo 3)) (mo 0 8) (nd ((mo 3)) (mo 0 8) (nd (mo 3) (mo 0 8) (nd (mo 3) (mo 0 8) (nd (mo 3) (mo 0 8) (nd (mo 3) (mo 0 8) (nd (mo 3) (mo 0 8) (nd (mo 3) (mo 0 8) (sp.1 + 1, sp.2) 101) 115) 116) 105) 102) 121) 32) 2).2).2)) 15 (si + 1))) 4 (updZ (updZ (clB (mo 4) (5 * si) i) (5 * si) 116) (5 * si + 1) ((nm (mo 3) (mo 0 8) (nd (mo 3) (mo 0 8) (nd (mo 3) (mo 0 8) (nd (mo 3) (mo 0 8) (nd (mo 3) (mo 0 8) (nd (mo 3) (mo 0 8) (nd (mo 3) (mo 0 8) (nd (mo 3) (mo 0 8) (sp.1 + 1, sp.2) 101) 115) 116) 105) 102) 121) 32) 2).1)))) rfl (fun H16 lo16 hzz hM hF h_mo => ?_)
              clear hzz
              refine v_iload_n X dX10_command_141 142 rfl 0 rfl ?_
              refine v_lookup X dX10_command_142 (by decide) (off := 50) (by decide) 192 (by decide) ?_
              refine v_aload_n X dX10_command_192 193 rfl 3 rfl ?_
              refine v_getf X hM.C h_mo.1 inX10 0 rfl rfl 14 (by decide) kf_X10_27 (fun _ h => h) rfl dX10_command_193 196 rfl ?_
              refine v_iload_n X dX10_command_196 197 rfl 2 rfl ?_
              refine v_iconst X dX10_command_197 198 rfl ?_
              refine v_iadd X dX10_command_198 199 rfl ?_
              refine v_aload_n X dX10_command_199 200 rfl 3 rfl ?_
              refine v_iconst X dX10_command_200 201 rfl ?_
              refine v_muV X hM (h_mo.1) (c_X10_behind_1 l E b (updC (updC mo 0 (updZ (updZ (updZ (mo 0) 9 (((nm ((mo 3)) (mo 0 8) (nd ((mo 3)) (mo 0 8) (nd (mo 3) (mo 0 8) (nd (mo 3) (mo 0 8) (nd (mo 3) (mo 0 8) (nd (mo 3) (mo 0 8) (nd (mo 3) (mo 0 8) (nd (mo 3) (mo 0 8) (sp.1 + 1, sp.2) 101) 115) 116) 105) 102) 121) 32) 2).2).1)) 10 (((nm ((mo 3)) (mo 0 8) (nd ((mo 3)) (mo 0 8) (nd (mo 3) (mo 0 8) (nd (mo 3) (mo 0 8) (nd (mo 3) (mo 0 8) (nd (mo 3) (mo 0 8) (nd (mo 3) (mo 0 8) (nd (mo 3) (mo 0 8) (sp.1 + 1, sp.2) 101) 115) 116) 105) 102) 121) 32) 2).2).2)) 15 (si + 1))) 4 (updZ (updZ (clB (mo 4) (5 * si) i) (5 * si) 116) (5 * si + 1) ((nm (mo 3) (mo 0 8) (nd (mo 3) (mo 0 8) (nd (mo 3) (mo 0 8) (nd (mo 3) (mo 0 8) (nd (mo 3) (mo 0 8) (nd (mo 3) (mo 0 8) (nd (mo 3) (mo 0 8) (nd (mo 3) (mo 0 8) (sp.1 + 1, sp.2) 101) 115) 116) 105) 102) 121) 32) 2).1))) ((nm (mo 3) (mo 0 8) (nd (mo 3) (mo 0 8) (nd (mo 3) (mo 0 8) (nd (mo 3) (mo 0 8) (nd (mo 3) (mo 0 8) (nd (mo 3) (mo 0 8) (nd (mo 3) (mo 0 8) (nd (mo 3) (mo 0 8) (sp.1 + 1, sp.2) 101) 115) 116) 105) 102) 121) 32) 2).2) hcr hn (by first | rfl | assumption) (by first | rfl | assumption) (show inS (mo 0 8) ((nm (mo 3) (mo 0 8) (nd (mo 3) (mo 0 8) (nd (mo 3) (mo 0 8) (nd (mo 3) (mo 0 8) (nd (mo 3) (mo 0 8) (nd (mo 3) (mo 0 8) (nd (mo 3) (mo 0 8) (nd (mo 3) (mo 0 8) (sp.1 + 1, sp.2) 101) 115) 116) 105) 102) 121) 32) 2).2) from (by first | assumption | (dsimp only [inS]; omega)))) kvX10_behind kiX10_behind kl_X10_194 (q0 := 0) rfl rfl (As := [.int (zI 1)]) rfl rfl rfl dX10_command_201 204 rfl (k' := 0) (n' := 0) rfl rfl (fsI (fun q q1 q2 => (Or.inl (fsH (by omega) (by omega))))) h_mo (fun rv H17 lo17 hM hF hpo => ?_)
              obtain ⟨rfl, hw_0⟩ := hpo
              have h_mo : PR E b (modelW E b (updC (updC mo 0 (updZ (updZ (updZ (mo 0) 9 (((nm ((mo 3)) (mo 0 8) (nd ((mo 3)) (mo 0 8) ((nm (mo 3) (mo 0 8) (nd (mo 3) (mo 0 8) (nd (mo 3) (mo 0 8) (nd (mo 3) (mo 0 8) (nd (mo 3) (mo 0 8) (nd (mo 3) (mo 0 8) (nd (mo 3) (mo 0 8) (nd (mo 3) (mo 0 8) (sp.1 + 1, sp.2) 101) 115) 116) 105) 102) 121) 32) 2).2) 32) 1).2).1)) 10 (((nm ((mo 3)) (mo 0 8) (nd ((mo 3)) (mo 0 8) ((nm (mo 3) (mo 0 8) (nd (mo 3) (mo 0 8) (nd (mo 3) (mo 0 8) (nd (mo 3) (mo 0 8) (nd (mo 3) (mo 0 8) (nd (mo 3) (mo 0 8) (nd (mo 3) (mo 0 8) (nd (mo 3) (mo 0 8) (sp.1 + 1, sp.2) 101) 115) 116) 105) 102) 121) 32) 2).2) 32) 1).2).2)) 15 (si + 1))) 4 (updZ (updZ (clB (mo 4) (5 * si) i) (5 * si) 116) (5 * si + 1) ((nm (mo 3) (mo 0 8) (nd (mo 3) (mo 0 8) (nd (mo 3) (mo 0 8) (nd (mo 3) (mo 0 8) (nd (mo 3) (mo 0 8) (nd (mo 3) (mo 0 8) (nd (mo 3) (mo 0 8) (nd (mo 3) (mo 0 8) (sp.1 + 1, sp.2) 101) 115) 116) 105) 102) 121) 32) 2).1)))) H17 := hw_0
              show V p l e (rmL 4 0 0) s m args below meth cd Q 4 H17 lo17 0 0 204 [(3, .int (zI 116)), (2, .int (zI (sgM (mo 3) (mo 0 8) sp.1))), (1, .int (zI (5 * si))), (0, .ref b)] [.int (zI ((nm (mo 3) (mo 0 8) (nd (mo 3) (mo 0 8) ((nm (mo 3) (mo 0 8) (nd (mo 3) (mo 0 8) (nd (mo 3) (mo 0 8) (nd (mo 3) (mo 0 8) (nd (mo 3) (mo 0 8) (nd (mo 3) (mo 0 8) (nd (mo 3) (mo 0 8) (nd (mo 3) (mo 0 8) (sp.1 + 1, sp.2) 101) 115) 116) 105) 102) 121) 32) 2).2) 32) 1).1)), .int (zI (5 * si + 2)), .ref (b + 4)]
              have hf_18 := nm_b ((mo 3)) (mo 0 8) (nd ((mo 3)) (mo 0 8) ((nm (mo 3) (mo 0 8) (nd (mo 3) (mo 0 8) (nd (mo 3) (mo 0 8) (nd (mo 3) (mo 0 8) (nd (mo 3) (mo 0 8) (nd (mo 3) (mo 0 8) (nd (mo 3) (mo 0 8) (nd (mo 3) (mo 0 8) (sp.1 + 1, sp.2) 101) 115) 116) 105) 102) 121) 32) 2).2) 32) 1 (nd_b _ _ _ _ (by first | assumption | (dsimp only [inS]; omega)) (by omega))
              refine v_iast X hM h_mo 4 rfl (by omega) (by omega) (by omega) (Or.inl (fsH (by omega) (by omega))) dX10_command_204 205 rfl (ws' := modelW E b (updC (updC mo 0 (updZ (updZ (updZ (mo 0) 9 (((nm ((mo 3)) (mo 0 8) (nd ((mo 3)) (mo 0 8) ((nm (mo 3) (mo 0 8) (nd (mo 3) (mo 0 8) (nd (mo 3) (mo 0 8) (nd (mo 3) (mo 0 8) (nd (mo 3) (mo 0 8) (nd (mo 3) (mo 0 8) (nd (mo 3) (mo 0 8) (nd (mo 3) (mo 0 8) (sp.1 + 1, sp.2) 101) 115) 116) 105) 102) 121) 32) 2).2) 32) 1).2).1)) 10 (((nm ((mo 3)) (mo 0 8) (nd ((mo 3)) (mo 0 8) ((nm (mo 3) (mo 0 8) (nd (mo 3) (mo 0 8) (nd (mo 3) (mo 0 8) (nd (mo 3) (mo 0 8) (nd (mo 3) (mo 0 8) (nd (mo 3) (mo 0 8) (nd (mo 3) (mo 0 8) (nd (mo 3) (mo 0 8) (sp.1 + 1, sp.2) 101) 115) 116) 105) 102) 121) 32) 2).2) 32) 1).2).2)) 15 (si + 1))) 4 (updZ (updZ (updZ (clB (mo 4) (5 * si) i) (5 * si) 116) (5 * si + 1) ((nm (mo 3) (mo 0 8) (nd (mo 3) (mo 0 8) (nd (mo 3) (mo 0 8) (nd (mo 3) (mo 0 8) (nd (mo 3) (mo 0 8) (nd (mo 3) (mo 0 8) (nd (mo 3) (mo 0 8) (nd (mo 3) (mo 0 8) (sp.1 + 1, sp.2) 101) 115) 116) 105) 102) 121) 32) 2).1)) (5 * si + 2) ((nm (mo 3) (mo 0 8) (nd (mo 3) (mo 0 8) ((nm (mo 3) (mo 0 8) (nd (mo 3) (mo 0 8) (nd (mo 3) (mo 0 8) (nd (mo 3) (mo 0 8) (nd (mo 3) (mo 0 8) (nd (mo 3) (mo 0 8) (nd (mo 3) (mo 0 8) (nd (mo 3) (mo 0 8) (sp.1 + 1, sp.2) 101) 115) 116) 105) 102) 121) 32) 2).2) 32) 1).1)))) rfl (fun H19 lo19 hzz hM hF h_mo => ?_)
              clear hzz
              refine v_aload_n X dX10_command_205 206 rfl 3 rfl ?_
              refine v_getf X hM.C h_mo.1 inX10 0 rfl rfl 14 (by decide) kf_X10_27 (fun _ h => h) rfl dX10_command_206 209 rfl ?_
              refine v_iload_n X dX10_command_209 210 rfl 2 rfl ?_
              refine v_iconst X dX10_command_210 211 rfl ?_
              refine v_iadd X dX10_command_211 212 rfl ?_
              refine v_aload_n X dX10_command_212 213 rfl 3 rfl ?_
              refine v_bipush X dX10_command_213 215 rfl rfl ?_
              refine v_bipush X dX10_command_215 217 rfl rfl ?_
              refine v_muV X hM (h_mo.1) (c_X10_either l E b (updC (updC mo 0 (updZ (updZ (updZ (mo 0) 9 (((nm ((mo 3)) (mo 0 8) (nd ((mo 3)) (mo 0 8) ((nm (mo 3) (mo 0 8) (nd (mo 3) (mo 0 8) (nd (mo 3) (mo 0 8) (nd (mo 3) (mo 0 8) (nd (mo 3) (mo 0 8) (nd (mo 3) (mo 0 8) (nd (mo 3) (mo 0 8) (nd (mo 3) (mo 0 8) (sp.1 + 1, sp.2) 101) 115) 116) 105) 102) 121) 32) 2).2) 32) 1).2).1)) 10 (((nm ((mo 3)) (mo 0 8) (nd ((mo 3)) (mo 0 8) ((nm (mo 3) (mo 0 8) (nd (mo 3) (mo 0 8) (nd (mo 3) (mo 0 8) (nd (mo 3) (mo 0 8) (nd (mo 3) (mo 0 8) (nd (mo 3) (mo 0 8) (nd (mo 3) (mo 0 8) (nd (mo 3) (mo 0 8) (sp.1 + 1, sp.2) 101) 115) 116) 105) 102) 121) 32) 2).2) 32) 1).2).2)) 15 (si + 1))) 4 (updZ (updZ (updZ (clB (mo 4) (5 * si) i) (5 * si) 116) (5 * si + 1) ((nm (mo 3) (mo 0 8) (nd (mo 3) (mo 0 8) (nd (mo 3) (mo 0 8) (nd (mo 3) (mo 0 8) (nd (mo 3) (mo 0 8) (nd (mo 3) (mo 0 8) (nd (mo 3) (mo 0 8) (nd (mo 3) (mo 0 8) (sp.1 + 1, sp.2) 101) 115) 116) 105) 102) 121) 32) 2).1)) (5 * si + 2) ((nm (mo 3) (mo 0 8) (nd (mo 3) (mo 0 8) ((nm (mo 3) (mo 0 8) (nd (mo 3) (mo 0 8) (nd (mo 3) (mo 0 8) (nd (mo 3) (mo 0 8) (nd (mo 3) (mo 0 8) (nd (mo 3) (mo 0 8) (nd (mo 3) (mo 0 8) (nd (mo 3) (mo 0 8) (sp.1 + 1, sp.2) 101) 115) 116) 105) 102) 121) 32) 2).2) 32) 1).1))) ((nm (mo 3) (mo 0 8) (nd (mo 3) (mo 0 8) ((nm (mo 3) (mo 0 8) (nd (mo 3) (mo 0 8) (nd (mo 3) (mo 0 8) (nd (mo 3) (mo 0 8) (nd (mo 3) (mo 0 8) (nd (mo 3) (mo 0 8) (nd (mo 3) (mo 0 8) (nd (mo 3) (mo 0 8) (sp.1 + 1, sp.2) 101) 115) 116) 105) 102) 121) 32) 2).2) 32) 1).2) 43 45 hcr hn (by first | rfl | assumption) (by first | rfl | assumption) (show inS (mo 0 8) ((nm (mo 3) (mo 0 8) (nd (mo 3) (mo 0 8) ((nm (mo 3) (mo 0 8) (nd (mo 3) (mo 0 8) (nd (mo 3) (mo 0 8) (nd (mo 3) (mo 0 8) (nd (mo 3) (mo 0 8) (nd (mo 3) (mo 0 8) (nd (mo 3) (mo 0 8) (nd (mo 3) (mo 0 8) (sp.1 + 1, sp.2) 101) 115) 116) 105) 102) 121) 32) 2).2) 32) 1).2) from (by first | assumption | (dsimp only [inS]; omega))) (by omega) (by omega)) kvX10_either kiX10_either kl_X10_197 (q0 := 0) rfl rfl (As := [.int (zI 43), .int (zI 45)]) rfl rfl rfl dX10_command_217 220 rfl (k' := 0) (n' := 0) rfl rfl (fsI (fun q q1 q2 => (Or.inl (fsH (by omega) (by omega))))) h_mo (fun rv H20 lo20 hM hF hpo => ?_)
              obtain ⟨rfl, hw_0⟩ := hpo
              have h_mo : PR E b (modelW E b (updC (updC mo 0 (updZ (updZ (updZ (mo 0) 9 (((ei ((mo 3)) (mo 0 8) ((nm (mo 3) (mo 0 8) (nd (mo 3) (mo 0 8) ((nm (mo 3) (mo 0 8) (nd (mo 3) (mo 0 8) (nd (mo 3) (mo 0 8) (nd (mo 3) (mo 0 8) (nd (mo 3) (mo 0 8) (nd (mo 3) (mo 0 8) (nd (mo 3) (mo 0 8) (nd (mo 3) (mo 0 8) (sp.1 + 1, sp.2) 101) 115) 116) 105) 102) 121) 32) 2).2) 32) 1).2) 43 45).2).1)) 10 (((ei ((mo 3)) (mo 0 8) ((nm (mo 3) (mo 0 8) (nd (mo 3) (mo 0 8) ((nm (mo 3) (mo 0 8) (nd (mo 3) (mo 0 8) (nd (mo 3) (mo 0 8) (nd (mo 3) (mo 0 8) (nd (mo 3) (mo 0 8) (nd (mo 3) (mo 0 8) (nd (mo 3) (mo 0 8) (nd (mo 3) (mo 0 8) (sp.1 + 1, sp.2) 101) 115) 116) 105) 102) 121) 32) 2).2) 32) 1).2) 43 45).2).2)) 15 (si + 1))) 4 (updZ (updZ (updZ (clB (mo 4) (5 * si) i) (5 * si) 116) (5 * si + 1) ((nm (mo 3) (mo 0 8) (nd (mo 3) (mo 0 8) (nd (mo 3) (mo 0 8) (nd (mo 3) (mo 0 8) (nd (mo 3) (mo 0 8) (nd (mo 3) (mo 0 8) (nd (mo 3) (mo 0 8) (nd (mo 3) (mo 0 8) (sp.1 + 1, sp.2) 101) 115) 116) 105) 102) 121) 32) 2).1)) (5 * si + 2) ((nm (mo 3) (mo 0 8) (nd (mo 3) (mo 0 8) ((nm (mo 3) (mo 0 8) (nd (mo 3) (mo 0 8) (nd (mo 3) (mo 0 8) (nd (mo 3) (mo 0 8) (nd (mo 3) (mo 0 8) (nd (mo 3) (mo 0 8) (nd (mo 3) (mo 0 8) (nd (mo 3) (mo 0 8) (sp.1 + 1, sp.2) 101) 115) 116) 105) 102) 121) 32) 2).2) 32) 1).1)))) H20 := hw_0
              show V p l e (rmL 4 0 0) s m args below meth cd Q 4 H20 lo20 0 0 220 [(3, .int (zI 116)), (2, .int (zI (sgM (mo 3) (mo 0 8) sp.1))), (1, .int (zI (5 * si))), (0, .ref b)] [.int (zI ((ei (mo 3) (mo 0 8) ((nm (mo 3) (mo 0 8) (nd (mo 3) (mo 0 8) ((nm (mo 3) (mo 0 8) (nd (mo 3) (mo 0 8) (nd (mo 3) (mo 0 8) (nd (mo 3) (mo 0 8) (nd (mo 3) (mo 0 8) (nd (mo 3) (mo 0 8) (nd (mo 3) (mo 0 8) (nd (mo 3) (mo 0 8) (sp.1 + 1, sp.2) 101) 115) 116) 105) 102) 121) 32) 2).2) 32) 1).2) 43 45).1)), .int (zI (5 * si + 3)), .ref (b + 4)]
              have hf_21 := ei_b ((mo 3)) (mo 0 8) ((nm (mo 3) (mo 0 8) (nd (mo 3) (mo 0 8) ((nm (mo 3) (mo 0 8) (nd (mo 3) (mo 0 8) (nd (mo 3) (mo 0 8) (nd (mo 3) (mo 0 8) (nd (mo 3) (mo 0 8) (nd (mo 3) (mo 0 8) (nd (mo 3) (mo 0 8) (nd (mo 3) (mo 0 8) (sp.1 + 1, sp.2) 101) 115) 116) 105) 102) 121) 32) 2).2) 32) 1).2) 43 45 (by first | assumption | (dsimp only [inS]; omega)) (by omega) (by omega)
              refine v_iast X hM h_mo 4 rfl (by omega) (by omega) (by omega) (Or.inl (fsH (by omega) (by omega))) dX10_command_220 221 rfl (ws' := modelW E b (updC (updC mo 0 (updZ (updZ (updZ (mo 0) 9 (((ei ((mo 3)) (mo 0 8) ((nm (mo 3) (mo 0 8) (nd (mo 3) (mo 0 8) ((nm (mo 3) (mo 0 8) (nd (mo 3) (mo 0 8) (nd (mo 3) (mo 0 8) (nd (mo 3) (mo 0 8) (nd (mo 3) (mo 0 8) (nd (mo 3) (mo 0 8) (nd (mo 3) (mo 0 8) (nd (mo 3) (mo 0 8) (sp.1 + 1, sp.2) 101) 115) 116) 105) 102) 121) 32) 2).2) 32) 1).2) 43 45).2).1)) 10 (((ei ((mo 3)) (mo 0 8) ((nm (mo 3) (mo 0 8) (nd (mo 3) (mo 0 8) ((nm (mo 3) (mo 0 8) (nd (mo 3) (mo 0 8) (nd (mo 3) (mo 0 8) (nd (mo 3) (mo 0 8) (nd (mo 3) (mo 0 8) (nd (mo 3) (mo 0 8) (nd (mo 3) (mo 0 8) (nd (mo 3) (mo 0 8) (sp.1 + 1, sp.2) 101) 115) 116) 105) 102) 121) 32) 2).2) 32) 1).2) 43 45).2).2)) 15 (si + 1))) 4 (updZ (updZ (updZ (updZ (clB (mo 4) (5 * si) i) (5 * si) 116) (5 * si + 1) ((nm (mo 3) (mo 0 8) (nd (mo 3) (mo 0 8) (nd (mo 3) (mo 0 8) (nd (mo 3) (mo 0 8) (nd (mo 3) (mo 0 8) (nd (mo 3) (mo 0 8) (nd (mo 3) (mo 0 8) (nd (mo 3) (mo 0 8) (sp.1 + 1, sp.2) 101) 115) 116) 105) 102) 121) 32) 2).1)) (5 * si + 2) ((nm (mo 3) (mo 0 8) (nd (mo 3) (mo 0 8) ((nm (mo 3) (mo 0 8) (nd (mo 3) (mo 0 8) (nd (mo 3) (mo 0 8) (nd (mo 3) (mo 0 8) (nd (mo 3) (mo 0 8) (nd (mo 3) (mo 0 8) (nd (mo 3) (mo 0 8) (nd (mo 3) (mo 0 8) (sp.1 + 1, sp.2) 101) 115) 116) 105) 102) 121) 32) 2).2) 32) 1).1)) (5 * si + 3) ((ei (mo 3) (mo 0 8) ((nm (mo 3) (mo 0 8) (nd (mo 3) (mo 0 8) ((nm (mo 3) (mo 0 8) (nd (mo 3) (mo 0 8) (nd (mo 3) (mo 0 8) (nd (mo 3) (mo 0 8) (nd (mo 3) (mo 0 8) (nd (mo 3) (mo 0 8) (nd (mo 3) (mo 0 8) (nd (mo 3) (mo 0 8) (sp.1 + 1, sp.2) 101) 115) 116) 105) 102) 121) 32) 2).2) 32) 1).2) 43 45).1)))) rfl (fun H22 lo22 hzz hM hF h_mo => ?_)
              clear hzz
              refine v_aload_n X dX10_command_221 222 rfl 3 rfl ?_
              refine v_getf X hM.C h_mo.1 inX10 0 rfl rfl 14 (by decide) kf_X10_27 (fun _ h => h) rfl dX10_command_222 225 rfl ?_
              refine v_iload_n X dX10_command_225 226 rfl 2 rfl ?_
              refine v_iconst X dX10_command_226 227 rfl ?_
              refine v_iadd X dX10_command_227 228 rfl ?_
              refine v_aload_n X dX10_command_228 229 rfl 3 rfl ?_
              refine v_iconst X dX10_command_229 230 rfl ?_
              refine v_muV X hM (h_mo.1) (c_X10_number_1 l E b (updC (updC mo 0 (updZ (updZ (updZ (mo 0) 9 (((ei ((mo 3)) (mo 0 8) ((nm (mo 3) (mo 0 8) (nd (mo 3) (mo 0 8) ((nm (mo 3) (mo 0 8) (nd (mo 3) (mo 0 8) (nd (mo 3) (mo 0 8) (nd (mo 3) (mo 0 8) (nd (mo 3) (mo 0 8) (nd (mo 3) (mo 0 8) (nd (mo 3) (mo 0 8) (nd (mo 3) (mo 0 8) (sp.1 + 1, sp.2) 101) 115) 116) 105) 102) 121) 32) 2).2) 32) 1).2) 43 45).2).1)) 10 (((ei ((mo 3)) (mo 0 8) ((nm (mo 3) (mo 0 8) (nd (mo 3) (mo 0 8) ((nm (mo 3) (mo 0 8) (nd (mo 3) (mo 0 8) (nd (mo 3) (mo 0 8) (nd (mo 3) (mo 0 8) (nd (mo 3) (mo 0 8) (nd (mo 3) (mo 0 8) (nd (mo 3) (mo 0 8) (nd (mo 3) (mo 0 8) (sp.1 + 1, sp.2) 101) 115) 116) 105) 102) 121) 32) 2).2) 32) 1).2) 43 45).2).2)) 15 (si + 1))) 4 (updZ (updZ (updZ (updZ (clB (mo 4) (5 * si) i) (5 * si) 116) (5 * si + 1) ((nm (mo 3) (mo 0 8) (nd (mo 3) (mo 0 8) (nd (mo 3) (mo 0 8) (nd (mo 3) (mo 0 8) (nd (mo 3) (mo 0 8) (nd (mo 3) (mo 0 8) (nd (mo 3) (mo 0 8) (nd (mo 3) (mo 0 8) (sp.1 + 1, sp.2) 101) 115) 116) 105) 102) 121) 32) 2).1)) (5 * si + 2) ((nm (mo 3) (mo 0 8) (nd (mo 3) (mo 0 8) ((nm (mo 3) (mo 0 8) (nd (mo 3) (mo 0 8) (nd (mo 3) (mo 0 8) (nd (mo 3) (mo 0 8) (nd (mo 3) (mo 0 8) (nd (mo 3) (mo 0 8) (nd (mo 3) (mo 0 8) (nd (mo 3) (mo 0 8) (sp.1 + 1, sp.2) 101) 115) 116) 105) 102) 121) 32) 2).2) 32) 1).1)) (5 * si + 3) ((ei (mo 3) (mo 0 8) ((nm (mo 3) (mo 0 8) (nd (mo 3) (mo 0 8) ((nm (mo 3) (mo 0 8) (nd (mo 3) (mo 0 8) (nd (mo 3) (mo 0 8) (nd (mo 3) (mo 0 8) (nd (mo 3) (mo 0 8) (nd (mo 3) (mo 0 8) (nd (mo 3) (mo 0 8) (nd (mo 3) (mo 0 8) (sp.1 + 1, sp.2) 101) 115) 116) 105) 102) 121) 32) 2).2) 32) 1).2) 43 45).1))) ((ei (mo 3) (mo 0 8) ((nm (mo 3) (mo 0 8) (nd (mo 3) (mo 0 8) ((nm (mo 3) (mo 0 8) (nd (mo 3) (mo 0 8) (nd (mo 3) (mo 0 8) (nd (mo 3) (mo 0 8) (nd (mo 3) (mo 0 8) (nd (mo 3) (mo 0 8) (nd (mo 3) (mo 0 8) (nd (mo 3) (mo 0 8) (sp.1 + 1, sp.2) 101) 115) 116) 105) 102) 121) 32) 2).2) 32) 1).2) 43 45).2) hcr hn (by first | rfl | assumption) (by first | rfl | assumption) (show inS (mo 0 8) ((ei (mo 3) (mo 0 8) ((nm (mo 3) (mo 0 8) (nd (mo 3) (mo 0 8) ((nm (mo 3) (mo 0 8) (nd (mo 3) (mo 0 8) (nd (mo 3) (mo 0 8) (nd (mo 3) (mo 0 8) (nd (mo 3) (mo 0 8) (nd (mo 3) (mo 0 8) (nd (mo 3) (mo 0 8) (nd (mo 3) (mo 0 8) (sp.1 + 1, sp.2) 101) 115) 116) 105) 102) 121) 32) 2).2) 32) 1).2) 43 45).2) from (by first | assumption | (dsimp only [inS]; omega)))) kvX10_number kiX10_number kl_X10_182 (q0 := 0) rfl rfl (As := [.int (zI 1)]) rfl rfl rfl dX10_command_230 233 rfl (k' := 0) (n' := 0) rfl rfl (fsI (fun q q1 q2 => (Or.inl (fsH (by omega) (by omega))))) h_mo (fun rv H23 lo23 hM hF hpo => ?_)
              obtain ⟨rfl, hw_0⟩ := hpo
              have h_mo : PR E b (modelW E b (updC (updC mo 0 (updZ (updZ (updZ (mo 0) 9 (((nm ((mo 3)) (mo 0 8) ((ei (mo 3) (mo 0 8) ((nm (mo 3) (mo 0 8) (nd (mo 3) (mo 0 8) ((nm (mo 3) (mo 0 8) (nd (mo 3) (mo 0 8) (nd (mo 3) (mo 0 8) (nd (mo 3) (mo 0 8) (nd (mo 3) (mo 0 8) (nd (mo 3) (mo 0 8) (nd (mo 3) (mo 0 8) (nd (mo 3) (mo 0 8) (sp.1 + 1, sp.2) 101) 115) 116) 105) 102) 121) 32) 2).2) 32) 1).2) 43 45).2) 1).2).1)) 10 (((nm ((mo 3)) (mo 0 8) ((ei (mo 3) (mo 0 8) ((nm (mo 3) (mo 0 8) (nd (mo 3) (mo 0 8) ((nm (mo 3) (mo 0 8) (nd (mo 3) (mo 0 8) (nd (mo 3) (mo 0 8) (nd (mo 3) (mo 0 8) (nd (mo 3) (mo 0 8) (nd (mo 3) (mo 0 8) (nd (mo 3) (mo 0 8) (nd (mo 3) (mo 0 8) (sp.1 + 1, sp.2) 101) 115) 116) 105) 102) 121) 32) 2).2) 32) 1).2) 43 45).2) 1).2).2)) 15 (si + 1))) 4 (updZ (updZ (updZ (updZ (clB (mo 4) (5 * si) i) (5 * si) 116) (5 * si + 1) ((nm (mo 3) (mo 0 8) (nd (mo 3) (mo 0 8) (nd (mo 3) (mo 0 8) (nd (mo 3) (mo 0 8) (nd (mo 3) (mo 0 8) (nd (mo 3) (mo 0 8) (nd (mo 3) (mo 0 8) (nd (mo 3) (mo 0 8) (sp.1 + 1, sp.2) 101) 115) 116) 105) 102) 121) 32) 2).1)) (5 * si + 2) ((nm (mo 3) (mo 0 8) (nd (mo 3) (mo 0 8) ((nm (mo 3) (mo 0 8) (nd (mo 3) (mo 0 8) (nd (mo 3) (mo 0 8) (nd (mo 3) (mo 0 8) (nd (mo 3) (mo 0 8) (nd (mo 3) (mo 0 8) (nd (mo 3) (mo 0 8) (nd (mo 3) (mo 0 8) (sp.1 + 1, sp.2) 101) 115) 116) 105) 102) 121) 32) 2).2) 32) 1).1)) (5 * si + 3) ((ei (mo 3) (mo 0 8) ((nm (mo 3) (mo 0 8) (nd (mo 3) (mo 0 8) ((nm (mo 3) (mo 0 8) (nd (mo 3) (mo 0 8) (nd (mo 3) (mo 0 8) (nd (mo 3) (mo 0 8) (nd (mo 3) (mo 0 8) (nd (mo 3) (mo 0 8) (nd (mo 3) (mo 0 8) (nd (mo 3) (mo 0 8) (sp.1 + 1, sp.2) 101) 115) 116) 105) 102) 121) 32) 2).2) 32) 1).2) 43 45).1)))) H23 := hw_0
              show V p l e (rmL 4 0 0) s m args below meth cd Q 4 H23 lo23 0 0 233 [(3, .int (zI 116)), (2, .int (zI (sgM (mo 3) (mo 0 8) sp.1))), (1, .int (zI (5 * si))), (0, .ref b)] [.int (zI ((nm (mo 3) (mo 0 8) ((ei (mo 3) (mo 0 8) ((nm (mo 3) (mo 0 8) (nd (mo 3) (mo 0 8) ((nm (mo 3) (mo 0 8) (nd (mo 3) (mo 0 8) (nd (mo 3) (mo 0 8) (nd (mo 3) (mo 0 8) (nd (mo 3) (mo 0 8) (nd (mo 3) (mo 0 8) (nd (mo 3) (mo 0 8) (nd (mo 3) (mo 0 8) (sp.1 + 1, sp.2) 101) 115) 116) 105) 102) 121) 32) 2).2) 32) 1).2) 43 45).2) 1).1)), .int (zI (5 * si + 4)), .ref (b + 4)]
              have hf_24 := nm_b ((mo 3)) (mo 0 8) ((ei (mo 3) (mo 0 8) ((nm (mo 3) (mo 0 8) (nd (mo 3) (mo 0 8) ((nm (mo 3) (mo 0 8) (nd (mo 3) (mo 0 8) (nd (mo 3) (mo 0 8) (nd (mo 3) (mo 0 8) (nd (mo 3) (mo 0 8) (nd (mo 3) (mo 0 8) (nd (mo 3) (mo 0 8) (nd (mo 3) (mo 0 8) (sp.1 + 1, sp.2) 101) 115) 116) 105) 102) 121) 32) 2).2) 32) 1).2) 43 45).2) 1 (by first | assumption | (dsimp only [inS]; omega))
              refine v_iast X hM h_mo 4 rfl (by omega) (by omega) (by omega) (Or.inl (fsH (by omega) (by omega))) dX10_command_233 234 rfl (ws' := modelW E b (updC (updC mo 0 (updZ (updZ (updZ (mo 0) 9 (((nm ((mo 3)) (mo 0 8) ((ei (mo 3) (mo 0 8) ((nm (mo 3) (mo 0 8) (nd (mo 3) (mo 0 8) ((nm (mo 3) (mo 0 8) (nd (mo 3) (mo 0 8) (nd (mo 3) (mo 0 8) (nd (mo 3) (mo 0 8) (nd (mo 3) (mo 0 8) (nd (mo 3) (mo 0 8) (nd (mo 3) (mo 0 8) (nd (mo 3) (mo 0 8) (sp.1 + 1, sp.2) 101) 115) 116) 105) 102) 121) 32) 2).2) 32) 1).2) 43 45).2) 1).2).1)) 10 (((nm ((mo 3)) (mo 0 8) ((ei (mo 3) (mo 0 8) ((nm (mo 3) (mo 0 8) (nd (mo 3) (mo 0 8) ((nm (mo 3) (mo 0 8) (nd (mo 3) (mo 0 8) (nd (mo 3) (mo 0 8) (nd (mo 3) (mo 0 8) (nd (mo 3) (mo 0 8) (nd (mo 3) (mo 0 8) (nd (mo 3) (mo 0 8) (nd (mo 3) (mo 0 8) (sp.1 + 1, sp.2) 101) 115) 116) 105) 102) 121) 32) 2).2) 32) 1).2) 43 45).2) 1).2).2)) 15 (si + 1))) 4 (updZ (updZ (updZ (updZ (updZ (clB (mo 4) (5 * si) i) (5 * si) 116) (5 * si + 1) ((nm (mo 3) (mo 0 8) (nd (mo 3) (mo 0 8) (nd (mo 3) (mo 0 8) (nd (mo 3) (mo 0 8) (nd (mo 3) (mo 0 8) (nd (mo 3) (mo 0 8) (nd (mo 3) (mo 0 8) (nd (mo 3) (mo 0 8) (sp.1 + 1, sp.2) 101) 115) 116) 105) 102) 121) 32) 2).1)) (5 * si + 2) ((nm (mo 3) (mo 0 8) (nd (mo 3) (mo 0 8) ((nm (mo 3) (mo 0 8) (nd (mo 3) (mo 0 8) (nd (mo 3) (mo 0 8) (nd (mo 3) (mo 0 8) (nd (mo 3) (mo 0 8) (nd (mo 3) (mo 0 8) (nd (mo 3) (mo 0 8) (nd (mo 3) (mo 0 8) (sp.1 + 1, sp.2) 101) 115) 116) 105) 102) 121) 32) 2).2) 32) 1).1)) (5 * si + 3) ((ei (mo 3) (mo 0 8) ((nm (mo 3) (mo 0 8) (nd (mo 3) (mo 0 8) ((nm (mo 3) (mo 0 8) (nd (mo 3) (mo 0 8) (nd (mo 3) (mo 0 8) (nd (mo 3) (mo 0 8) (nd (mo 3) (mo 0 8) (nd (mo 3) (mo 0 8) (nd (mo 3) (mo 0 8) (nd (mo 3) (mo 0 8) (sp.1 + 1, sp.2) 101) 115) 116) 105) 102) 121) 32) 2).2) 32) 1).2) 43 45).1)) (5 * si + 4) ((nm (mo 3) (mo 0 8) ((ei (mo 3) (mo 0 8) ((nm (mo 3) (mo 0 8) (nd (mo 3) (mo 0 8) ((nm (mo 3) (mo 0 8) (nd (mo 3) (mo 0 8) (nd (mo 3) (mo 0 8) (nd (mo 3) (mo 0 8) (nd (mo 3) (mo 0 8) (nd (mo 3) (mo 0 8) (nd (mo 3) (mo 0 8) (nd (mo 3) (mo 0 8) (sp.1 + 1, sp.2) 101) 115) 116) 105) 102) 121) 32) 2).2) 32) 1).2) 43 45).2) 1).1)))) rfl (fun H25 lo25 hzz hM hF h_mo => ?_)
              clear hzz
              refine v_goto X dX10_command_234 269 (by decide) ?_
              subst hQ; exact m_vret X hr hlk hM dX10_command_269 rfl ⟨rfl, (PR.to h_mo (by rw [h5]))⟩
            · skip
              exfalso; omega
        · skip
          exfalso; omega
  · skip
    refine v_aload_n X dX10_command_29 30 rfl 3 rfl ?_
    refine v_getf X hM.C h_mo.1 inX10 0 rfl rfl 14 (by decide) kf_X10_27 (fun _ h => h) rfl dX10_command_30 33 rfl ?_
    refine v_iload_n X dX10_command_33 34 rfl 2 rfl ?_
    refine v_iload_n X dX10_command_34 35 rfl 0 rfl ?_
    refine v_iadd X dX10_command_35 36 rfl ?_
    refine v_iconst X dX10_command_36 37 rfl ?_
    refine v_iast X hM h_mo 4 rfl (by omega) (by omega) (by omega) (Or.inl (fsH (by omega) (by omega))) dX10_command_37 38 rfl (ws' := modelW E b (updC (updC mo 0 (updZ (updZ (updZ (mo 0) 9 sp.1) 10 sp.2) 15 (si + 1))) 4 (updZ (clB (mo 4) (5 * si) i) (5 * si + (i : Int)) 0))) rfl (fun H26 lo26 hzz hM hF h_mo => ?_)
    clear hzz
    refine v_iinc X dX10_command_38 41 rfl 0 rfl (by decide) (L' := [(3, .int (zI ((i : Int) + 1))), (2, .int (zI (sgM (mo 3) (mo 0 8) sp.1))), (1, .int (zI (5 * si))), (0, .ref b)]) rfl ?_
    refine v_goto X dX10_command_41 24 (by decide) ?_
    exact V_L (L' := [(3, .int (zI ((i + 1 : Nat) : Int))), (2, .int (zI (sgM (mo 3) (mo 0 8) sp.1))), (1, .int (zI (5 * si))), (0, .ref b)]) (LC (vz (by omega)) (LC rfl (LC rfl (LC rfl rfl)))) (ih_i (by omega) _ _ hM (PR.to h_mo (by rw [clB_s])))
set_option maxHeartbeats 4000000 in
set_option maxRecDepth 20000 in
theorem c_X10_command_q (l : Launch) (E : Nat → Nat → Nat) (b : Nat) (mo : Nat → Int → Int) (sp : Int × Int) (si : Int) (hcr : ∀ j : Int, 0 ≤ j → j < mo 0 8 → 0 ≤ mo 3 j ∧ mo 3 j < 128) (hn : 0 ≤ mo 0 8 ∧ mo 0 8 ≤ 60) (e9 : mo 0 9 = sp.1) (e10 : mo 0 10 = sp.2) (bs : inS (mo 0 8) sp) (hse : sp.2 = -1) (hsi : mo 0 15 = si) (si0 : 0 ≤ si) (si1 : si < 61) (hf1 : sgM (mo 3) (mo 0 8) sp.1 = 113) : Mu l yX10_command cX10_command 4 none 4 0 0 E [(b, 5)] [.ref b] (fun H => PR E b (modelW E b mo) H) (fun rv H => rv = none ∧ PR E b (modelW E b (updC (updC mo 0 (updZ (updZ (updZ (mo 0) 9 (((ei (mo 3) (mo 0 8) ((nm (mo 3) (mo 0 8) (nd (mo 3) (mo 0 8) ((nm (mo 3) (mo 0 8) (nd (mo 3) (mo 0 8) (nd (mo 3) (mo 0 8) (nd (mo 3) (mo 0 8) (nd (mo 3) (mo 0 8) (nd (mo 3) (mo 0 8) (nd (mo 3) (mo 0 8) (nd (mo 3) (mo 0 8) (nd (mo 3) (mo 0 8) (sp.1 + 1, sp.2) 117) 101) 115) 116) 105) 111) 110) 32) 2).2) 32) 1).2) 33 63).2).1)) 10 (((ei (mo 3) (mo 0 8) ((nm (mo 3) (mo 0 8) (nd (mo 3) (mo 0 8) ((nm (mo 3) (mo 0 8) (nd (mo 3) (mo 0 8) (nd (mo 3) (mo 0 8) (nd (mo 3) (mo 0 8) (nd (mo 3) (mo 0 8) (nd (mo 3) (mo 0 8) (nd (mo 3) (mo 0 8) (nd (mo 3) (mo 0 8) (nd (mo 3) (mo 0 8) (sp.1 + 1, sp.2) 117) 101) 115) 116) 105) 111) 110) 32) 2).2) 32) 1).2) 33 63).2).2)) 15 (si + 1))) 4 (updZ (updZ (updZ (updZ (clB (mo 4) (5 * si) 5) (5 * si) 113) (5 * si + 1) (nm (mo 3) (mo 0 8) (nd (mo 3) (mo 0 8) (nd (mo 3) (mo 0 8) (nd (mo 3) (mo 0 8) (nd (mo 3) (mo 0 8) (nd (mo 3) (mo 0 8) (nd (mo 3) (mo 0 8) (nd (mo 3) (mo 0 8) (nd (mo 3) (mo 0 8) (sp.1 + 1, sp.2) 117) 101) 115) 116) 105) 111) 110) 32) 2).1) (5 * si + 2) (nm (mo 3) (mo 0 8) (nd (mo 3) (mo 0 8) ((nm (mo 3) (mo 0 8) (nd (mo 3) (mo 0 8) (nd (mo 3) (mo 0 8) (nd (mo 3) (mo 0 8) (nd (mo 3) (mo 0 8) (nd (mo 3) (mo 0 8) (nd (mo 3) (mo 0 8) (nd (mo 3) (mo 0 8) (nd (mo 3) (mo 0 8) (sp.1 + 1, sp.2) 117) 101) 115) 116) 105) 111) 110) 32) 2).2) 32) 1).1) (5 * si + 3) (ei (mo 3) (mo 0 8) ((nm (mo 3) (mo 0 8) (nd (mo 3) (mo 0 8) ((nm (mo 3) (mo 0 8) (nd (mo 3) (mo 0 8) (nd (mo 3) (mo 0 8) (nd (mo 3) (mo 0 8) (nd (mo 3) (mo 0 8) (nd (mo 3) (mo 0 8) (nd (mo 3) (mo 0 8) (nd (mo 3) (mo 0 8) (nd (mo 3) (mo 0 8) (sp.1 + 1, sp.2) 117) 101) 115) 116) 105) 111) 110) 32) 2).2) 32) 1).2) 33 63).1))) H) := by
  refine Mu.start (own := RX10) rfl (by decide +kernel) (Nat.le_of_ble_eq_true rfl) ?_
  intro p e s m below meth cd args Q hQ X hr hlk hnm hM hPr
  have h_mo := hPr
  have hbs := bs
  dsimp only [inS] at hbs
  replace h_mo : PR E b (modelW E b (updC mo 0 (updZ (updZ (mo 0) 9 sp.1) 10 sp.2))) s.heap := PR.to h_mo (by rw [upd_2 e9 e10])
  refine v_iconst X dX10_command_0 1 rfl ?_
  refine v_aload_n X dX10_command_1 2 rfl 0 rfl ?_
  refine v_getf X hM.C h_mo.1 inX10 0 rfl rfl 15 (by decide) kf_X10_188 (fun _ h => h) rfl dX10_command_2 5 rfl ?_
  show V p l e (rmL 4 0 0) s m args below meth cd Q 4 s.heap [] 0 0 5 [(0, .ref b)] [.int (zI (mo 0 15)), .int (zI 5)]
  refine v_imul X dX10_command_5 6 rfl ?_
  refine V_S (st' := [.int (zI (5 * si))]) (by rw [hsi]) ?_
  refine v_istore_n X dX10_command_6 7 rfl rfl (by decide) (L' := [(1, .int (zI (5 * si))), (0, .ref b)]) rfl ?_
  refine v_aload_n X dX10_command_7 8 rfl 1 rfl ?_
  refine v_dup X dX10_command_8 9 rfl rfl ?_
  refine v_getf X hM.C h_mo.1 inX10 0 rfl rfl 15 (by decide) kf_X10_188 (fun _ h => h) rfl dX10_command_9 12 rfl ?_
  show V p l e (rmL 4 0 0) s m args below meth cd Q 4 s.heap [] 0 0 12 [(1, .int (zI (5 * si))), (0, .ref b)] [.int (zI (mo 0 15)), .ref b]
  refine v_iconst X dX10_command_12 13 rfl ?_
  refine v_iadd X dX10_command_13 14 rfl ?_
  refine v_putf X hM h_mo ftX10 0 rfl rfl 15 (by decide) kf_X10_188 (fun _ h => h) rfl rfl rfl (Nat.le_of_ble_eq_true rfl) (Or.inl (fsH (by omega) (by omega))) dX10_command_14 17 rfl (ws' := modelW E b (updC mo 0 (updZ (updZ (updZ (mo 0) 9 sp.1) 10 sp.2) 15 (mo 0 15 + 1)))) rfl (fun H1 lo1 hzz hM hF h_mo => ?_)
  clear hzz
  rw [hsi] at h_mo
  refine v_aload_n X dX10_command_17 18 rfl 1 rfl ?_
  refine v_rdV X hM.C h_mo.1 (c_X10_sign l E b (updC mo 0 (updZ (updZ (updZ (mo 0) 9 sp.1) 10 sp.2) 15 (si + 1))) sp hcr hn (by first | rfl | assumption) bs) kvX10_sign kiX10_sign kl_X10_175 rfl rfl (As := []) rfl rfl rfl dX10_command_18 21 rfl ?_
  show V p l e (rmL 4 0 0) s m args below meth cd Q 4 H1 lo1 0 0 21 [(1, .int (zI (5 * si))), (0, .ref b)] [.int (zI (sgM (mo 3) (mo 0 8) sp.1))]
  have hf_2 := sgM_b ((mo 3)) (mo 0 8) sp.1 hcr (by first | omega | (dsimp only; omega))
  refine v_istore_n X dX10_command_21 22 rfl rfl (by decide) (L' := [(2, .int (zI (sgM (mo 3) (mo 0 8) sp.1))), (1, .int (zI (5 * si))), (0, .ref b)]) rfl ?_
  refine v_iconst X dX10_command_22 23 rfl ?_
  refine v_istore_n X dX10_command_23 24 rfl rfl (by decide) (L' := [(3, .int (zI 0)), (2, .int (zI (sgM (mo 3) (mo 0 8) sp.1))), (1, .int (zI (5 * si))), (0, .ref b)]) rfl ?_
  refine V_L (L' := [(3, .int (zI 0)), (2, .int (zI (sgM (mo 3) (mo 0 8) sp.1))), (1, .int (zI (5 * si))), (0, .ref b)]) (LC (vz (by rfl)) (LC rfl (LC rfl (LC rfl rfl)))) ?_
  refine up_loop 5 (P := fun (i : Nat) => ∀ (H : Heap) (lo : List Loc), MS E [(b, 5)] s H lo → PR E b (modelW E b (updC (updC mo 0 (updZ (updZ (updZ (mo 0) 9 sp.1) 10 sp.2) 15 (si + 1))) 4 (clB (mo 4) (5 * si) i))) H → V p l e (rmL 4 0 0) s m args below meth cd Q 4 H lo 0 0 24 [(3, .int (zI (i : Int))), (2, .int (zI (sgM (mo 3) (mo 0 8) sp.1))), (1, .int (zI (5 * si))), (0, .ref b)] []) (fun i hi_i ih_i H3 lo3 hM h_mo => ?_) _ _ hM (PR.to h_mo (by rw [clB_0]; rfl))
  refine v_iload_n X dX10_command_24 25 rfl 0 rfl ?_
  refine v_iconst X dX10_command_25 26 rfl ?_
  refine v_icmp_ge X (by omega) (by omega) dX10_command_26 29 44 rfl (by decide) (fun c_4 => ?_) (fun c_4 => ?_)
  · skip
    have h5 : i = 5 := by omega
    refine v_iload_n X dX10_command_44 45 rfl 1 rfl ?_
    refine v_bipush X dX10_command_45 47 rfl rfl ?_
    refine v_icmp_eq X (by omega) (by omega) dX10_command_47 50 89 rfl (by decide) (fun c_5 => ?_) (fun c_5 => ?_)
    · skip
      exfalso; omega
    · skip
      refine v_iload_n X dX10_command_50 51 rfl 1 rfl ?_
      refine v_bipush X dX10_command_51 53 rfl rfl ?_
      refine v_icmp_eq X (by omega) (by omega) dX10_command_53 56 89 rfl (by decide) (fun c_6 => ?_) (fun c_6 => ?_)
      · skip
        exfalso; omega
      · skip
        refine v_iload_n X dX10_command_56 57 rfl 1 rfl ?_
        refine v_bipush X dX10_command_57 59 rfl rfl ?_
        refine v_icmp_eq X (by omega) (by omega) dX10_command_59 62 89 rfl (by decide) (fun c_7 => ?_) (fun c_7 => ?_)
        · skip
          exfalso; omega
        · skip
          refine v_iload_n X dX10_command_62 63 rfl 1 rfl ?_
          refine v_bipush X dX10_command_63 65 rfl rfl ?_
          refine v_icmp_eq X (by omega) (by omega) dX10_command_65 68 89 rfl (by decide) (fun c_8 => ?_) (fun c_8 => ?_)
          · skip
            have hlt := sgM_lt (g := mo 3) (n := mo 0 8) (h := sp.1) (by omega)
            refine v_aload_n X dX10_command_89 90 rfl 3 rfl ?_
            refine v_dup X dX10_command_90 91 rfl rfl ?_
            refine v_getf X hM.C h_mo.1 inX10 0 rfl rfl 9 (by decide) kf_X10_169 (fun _ h => h) rfl dX10_command_91 94 rfl ?_
            show V p l e (rmL 4 0 0) s m args below meth cd Q 4 H3 lo3 0 0 94 [(3, .int (zI (i : Int))), (2, .int (zI (sgM (mo 3) (mo 0 8) sp.1))), (1, .int (zI (5 * si))), (0, .ref b)] [.int (zI sp.1), .ref b]
            refine v_iconst X dX10_command_94 95 rfl ?_
            refine v_iadd X dX10_command_95 96 rfl ?_
            refine v_putf X hM h_mo ftX10 0 rfl rfl 9 (by decide) kf_X10_169 (fun _ h => h) rfl rfl rfl (Nat.le_of_ble_eq_true rfl) (Or.inl (fsH (by omega) (by omega))) dX10_command_96 99 rfl (ws' := modelW E b (updC (updC mo 0 (updZ (updZ (updZ (mo 0) 9 (sp.1 + 1)) 10 sp.2) 15 (si + 1))) 4 (clB (mo 4) (5 * si) i))) rfl (fun H9 lo9 hzz hM hF h_mo => ?_)
            clear hzz
            refine v_aload_n X dX10_command_99 100 rfl 3 rfl ?_
            refine v_iload_n X dX10_command_100 101 rfl 1 rfl ?_
            refine V_S (st' := [.int (zI 113), .ref b]) (by rw [hf1]) ?_
            refine v_muV X hM (h_mo.1) (c_X10_word_113 l E b (updC (updC mo 0 (updZ (updZ (updZ (mo 0) 9 (sp.1 + 1)) 10 sp.2) 15 (si + 1))) 4 (clB (mo 4) (5 * si) i)) (sp.1 + 1, sp.2) hcr hn (by first | rfl | assumption) (by first | rfl | assumption) (show inS (mo 0 8) (sp.1 + 1, sp.2) from (by first | assumption | (dsimp only [inS]; omega)))) kvX10_word kiX10_word kl_X10_191 (q0 := 0) rfl rfl (As := [.int (zI 113)]) rfl rfl rfl dX10_command_101 104 rfl (k' := 0) (n' := 0) rfl rfl (fsI (fun q q1 q2 => (Or.inl (fsH (by omega) (by omega))))) h_mo (fun rv H10 lo10 hM hF hpo => ?_)
            obtain ⟨rfl, hw_0⟩ := hpo
            have h_mo : PR E b (modelW E b (updC (updC mo 0 (updZ (updZ (updZ (mo 0) 9 ((nd ((mo 3)) (mo 0 8) (nd ((mo 3)) (mo 0 8) (nd ((mo 3)) (mo 0 8) (nd ((mo 3)) (mo 0 8) (nd ((mo 3)) (mo 0 8) (nd ((mo 3)) (mo 0 8) (nd ((mo 3)) (mo 0 8) (sp.1 + 1, sp.2) 117) 101) 115) 116) 105) 111) 110).1)) 10 ((nd ((mo 3)) (mo 0 8) (nd ((mo 3)) (mo 0 8) (nd ((mo 3)) (mo 0 8) (nd ((mo 3)) (mo 0 8) (nd ((mo 3)) (mo 0 8) (nd ((mo 3)) (mo 0 8) (nd ((mo 3)) (mo 0 8) (sp.1 + 1, sp.2) 117) 101) 115) 116) 105) 111) 110).2)) 15 (si + 1))) 4 (clB (mo 4) (5 * si) i))) H10 := hw_0
            show V p l e (rmL 4 0 0) s m args below meth cd Q 4 H10 lo10 0 0 104 [(3, .int (zI (i : Int))), (2, .int (zI (sgM (mo 3) (mo 0 8) sp.1))), (1, .int (zI (5 * si))), (0, .ref b)] [.int (zI 113)]
            have hf_11 := ((nd_b _ _ _ _ (nd_b _ _ _ _ (nd_b _ _ _ _ (nd_b _ _ _ _ (nd_b _ _ _ _ (nd_b _ _ _ _ (nd_b _ _ _ _ (by first | assumption | (dsimp only [inS]; omega)) (by omega)) (by omega)) (by omega)) (by omega)) (by omega)) (by omega)) (by omega)) : inS (mo 0 8) (nd ((mo 3)) (mo 0 8) (nd ((mo 3)) (mo 0 8) (nd ((mo 3)) (mo 0 8) (nd ((mo 3)) (mo 0 8) (nd ((mo 3)) (mo 0 8) (nd ((mo 3)) (mo 0 8) (nd ((mo 3)) (mo 0 8) (sp.1 + 1, sp.2) 117) 101) 115) 116) 105) 111) 110))
            refine v_istore_n X dX10_command_104 105 rfl rfl (by decide) (L' := [(3, .int (zI 113)), (2, .int (zI (sgM (mo 3) (mo 0 8) sp.1))), (1, .int (zI (5 * si))), (0, .ref b)]) rfl ?_
            refine v_aload_n X dX10_command_105 106 rfl 3 rfl ?_
            refine v_getf X hM.C h_mo.1 inX10 0 rfl rfl 14 (by decide) kf_X10_27 (fun _ h => h) rfl dX10_command_106 109 rfl ?_
            refine v_iload_n X dX10_command_109 110 rfl 2 rfl ?_
            refine v_iload_n X dX10_command_110 111 rfl 0 rfl ?_
            refine v_iast X hM h_mo 4 rfl (by omega) (by omega) (by omega) (Or.inl (fsH (by omega) (by omega))) dX10_command_111 112 rfl (ws' := modelW E b (updC (updC mo 0 (updZ (updZ (updZ (mo 0) 9 ((nd ((mo 3)) (mo 0 8) (nd ((mo 3)) (mo 0 8) (nd ((mo 3)) (mo 0 8) (nd ((mo 3)) (mo 0 8) (nd ((mo 3)) (mo 0 8) (nd ((mo 3)) (mo 0 8) (nd ((mo 3)) (mo 0 8) (sp.1 + 1, sp.2) 117) 101) 115) 116) 105) 111) 110).1)) 10 ((nd ((mo 3)) (mo 0 8) (nd ((mo 3)) (mo 0 8) (nd ((mo 3)) (mo 0 8) (nd ((mo 3)) (mo 0 8) (nd ((mo 3)) (mo 0 8) (nd ((mo 3)) (mo 0 8) (nd ((mo 3)) (mo 0 8) (sp.1 + 1, sp.2) 117) 101) 115) 116) 105) 111) 110).2)) 15 (si + 1))) 4 (updZ (clB (mo 4) (5 * si) i) (5 * si) 113))) rfl (fun H12 lo12 hzz hM hF h_mo => ?_)
            clear hzz
            refine v_aload_n X dX10_command_112 113 rfl 3 rfl ?_
            refine v_getf X hM.C h_mo.1 inX10 0 rfl rfl 14 (by decide) kf_X10_27 (fun _ h => h) rfl dX10_command_113 116 rfl ?_
            refine v_iload_n X dX10_command_116 117 rfl 2 rfl ?_
            refine v_iconst X dX10_command_117 118 rfl ?_
            refine v_iadd X dX10_command_118 119 rfl ?_
            refine v_aload_n X dX10_command_119 120 rfl 3 rfl ?_
            refine v_iload_n X dX10_command_120 121 rfl 0 rfl ?_
            refine v_bipush X dX10_command_121 123 rfl rfl ?_
            refine v_icmp_eq X (by omega) (by omega) dX10_command_123 126 132 rfl (by decide) (fun c_13 => ?_) (fun c_13 => ?_)
            · skip
              exfalso; omega
            · skip
              refine v_iload_n X dX10_command_126 127 rfl 0 rfl ?_
              refine v_bipush X dX10_command_127 129 rfl rfl ?_
              refine v_icmp_ne X (by omega) (by omega) dX10_command_129 132 136 rfl (by decide) (fun c_14 => ?_) (fun c_14 => ?_)
              · skip
                refine v_iconst X dX10_command_136 137 rfl ?_
                refine v_muV X hM (h_mo.1) (c_X10_behind_2 l E b (updC (updC mo 0 (updZ (updZ (updZ (mo 0) 9 ((nd ((mo 3)) (mo 0 8) (nd ((mo 3)) (mo 0 8) (nd ((mo 3)) (mo 0 8) (nd ((mo 3)) (mo 0 8) (nd ((mo 3)) (mo 0 8) (nd ((mo 3)) (mo 0 8) (nd ((mo 3)) (mo 0 8) (sp.1 + 1, sp.2) 117) 101) 115) 116) 105) 111) 110).1)) 10 ((nd ((mo 3)) (mo 0 8) (nd ((mo 3)) (mo 0 8) (nd ((mo 3)) (mo 0 8) (nd ((mo 3)) (mo 0 8) (nd ((mo 3)) (mo 0 8) (nd ((mo 3)) (mo 0 8) (nd ((mo 3)) (mo 0 8) (sp.1 + 1, sp.2) 117) 101) 115) 116) 105) 111) 110).2)) 15 (si + 1))) 4 (updZ (clB (mo 4) (5 * si) i) (5 * si) 113)) (nd (mo 3) (mo 0 8) (nd (mo 3) (mo 0 8) (nd (mo 3) (mo 0 8) (nd (mo 3) (mo 0 8) (nd (mo 3) (mo 0 8) (nd (mo 3) (mo 0 8) (nd (mo 3) (mo 0 8) (sp.1 + 1, sp.2) 117) 101) 115) 116) 105) 111) 110) hcr hn (by first | rfl | assumption) (by first | rfl | assumption) (show inS (mo 0 8) (nd (mo 3) (mo 0 8) (nd (mo 3) (mo 0 8) (nd (mo 3) (mo 0 8) (nd (mo 3) (mo 0 8) (nd (mo 3) (mo 0 8) (nd (mo 3) (mo 0 8) (nd (mo 3) (mo 0 8) (sp.1 + 1, sp.2) 117) 101) 115) 116) 105) 111) 110) from (by first | assumption | (dsimp only [inS]; omega)))) kvX10_behind kiX10_behind kl_X10_194 (q0 := 0) rfl rfl (As := [.int (zI 2)]) rfl rfl rfl dX10_command_137 140 rfl (k' := 0) (n' := 0) rfl rfl (fsI (fun q q1 q2 => (Or.inl (fsH (by omega) (by omega))))) h_mo (fun rv H15 lo15 hM hF hpo => ?_)
                obtain ⟨rfl, hw_0⟩ := hpo
                have h_mo : PR E b (modelW E b (updC (updC mo 0 (updZ (updZ (updZ (mo 0) 9 (((nm ((mo 3)) (mo 0 8) (nd ((mo 3)) (mo 0 8) (nd (mo 3) (mo 0 8) (nd (mo 3) (mo 0 8) (nd (mo 3) (mo 0 8) (nd (mo 3) (mo 0 8) (nd (mo 3) (mo 0 8) (nd (mo 3) (mo 0 8) (nd (mo 3) (mo 0 8) (sp.1 + 1, sp.2) 117) 101) 115) 116) 105) 111) 110) 32) 2).2).1)) 10 (((nm ((mo 3)) (mo 0 8) (nd ((mo 3)) (mo 0 8) (nd (mo 3) (mo 0 8) (nd (mo 3) (mo 0 8) (nd (mo 3) (mo 0 8) (nd (mo 3) (mo 0 8) (nd (mo 3) (mo 0 8) (nd (mo 3) (mo 0 8) (nd (mo 3) (mo 0 8) (sp.1 + 1, sp.2) 117) 101) 115) 116) 105) 111) 110) 32) 2).2).2)) 15 (si + 1))) 4 (updZ (clB (mo 4) (5 * si) i) (5 * si) 113))) H15 := hw_0
                show V p l e (rmL 4 0 0) s m args below meth cd Q 4 H15 lo15 0 0 140 [(3, .int (zI 113)), (2, .int (zI (sgM (mo 3) (mo 0 8) sp.1))), (1, .int (zI (5 * si))), (0, .ref b)] [.int (zI ((nm (mo 3) (mo 0 8) (nd (mo 3) (mo 0 8) (nd (mo 3) (mo 0 8) (nd (mo 3) (mo 0 8) (nd (mo 3) (mo 0 8) (nd (mo 3) (mo 0 8) (nd (mo 3) (mo 0 8) (nd (mo 3) (mo 0 8) (nd (mo 3) (mo 0 8) (sp.1 + 1, sp.2) 117) 101) 115) 116) 105) 111) 110) 32) 2).1)), .int (zI (5 * si + 1)), .ref (b + 4)]
                have hf_16 := nm_b ((mo 3)) (mo 0 8) (nd ((mo 3)) (mo 0 8) (nd (mo 3) (mo 0 8) (nd (mo 3) (mo 0 8) (nd (mo 3) (mo 0 8) (nd (mo 3) (mo 0 8) (nd (mo 3) (mo 0 8) (nd (mo 3) (mo 0 8) (nd (mo 3) (mo 0 8) (sp.1 + 1, sp.2) 117) 101) 115) 116) 105) 111) 110) 32) 2 (nd_b _ _ _ _ (by first | assumption | (dsimp only [inS]; omega)) (by omega))
                refine v_iast X hM h_mo 4 rfl (by omega) (by omega) (by omega) (Or.inl (fsH (by omega) (by omega))) dX10_command_140 141 rfl (ws' := modelW E b (updC (updC mo 0 (updZ (updZ (updZ (mo 0) 9 (((nm ((mo 3)) (mo 0 8) (nd ((mo 3)) (mo 0 8) (nd (mo 3) (mo 0 8) (nd (mo 3) (mo 0 8) (nd (mo 3) (mo 0 8) (nd (mo 3) (mo 0 8) (nd (mo 3) (mo 0 8) (nd (mo 3) (mo 0 8) (nd (mo 3) (mo 0 8) (sp.1 + 1, sp.2) 117) 101) 115) 116) 105) 111) 110) 32) 2).2).1)) 10 (((nm ((mo 3)) (mo 0 8) (nd ((mo 3)) (mo 0 8) (nd (mo 3) (mo 0 8) (nd (mo 3) (mo 0 8) (nd (mo 3) (mo 0 8) (nd (mo 3) (mo 0 8) (nd (mo 3) (mo 0 8) (nd (mo 3) (mo 0 8) (nd (mo 3) (mo 0 8) (sp.1 + 1, sp.2) 117) 101) 115) 116) 105) 111) 110) 32) 2).2).2)) 15 (si + 1))) 4 (updZ (updZ (clB (mo 4) (5 * si) i) (5 * si) 113) (5 * si + 1) ((nm (mo 3) (mo 0 8) (nd (mo 3) (mo 0 8) (nd (mo 3) (mo 0 8) (nd (mo 3) (mo 0 8) (nd (mo 3) (mo 0 8) (nd (mo 3) (mo 0 8) (nd (mo 3) (mo 0 8) (nd (mo 3) (mo 0 8) (nd (mo 3) (mo 0 8) (sp.1 + 1, sp.2) 117) 101) 115) 116) 105) 111) 110) 32) 2).1)))) rfl (fun H17 lo17 hzz hM hF h_mo => ?_)
                clear hzz
                refine v_iload_n X dX10_command_141 142 rfl 0 rfl ?_
                refine v_lookup X dX10_command_142 (by decide) (off := 95) (by decide) 237 (by decide) ?_
                refine v_aload_n X dX10_command_237 238 rfl 3 rfl ?_
                refine v_getf X hM.C h_mo.1 inX10 0 rfl rfl 14 (by decide) kf_X10_27 (fun _ h => h) rfl dX10_command_238 241 rfl ?_
                refine v_iload_n X dX10_command_241 242 rfl 2 rfl ?_
                refine v_iconst X dX10_command_242 243 rfl ?_
                refine v_iadd X dX10_command_243 244 rfl ?_
                refine v_aload_n X dX10_command_244 245 rfl 3 rfl ?_
                refine v_iconst X dX10_command_245 246 rfl ?_
                refine v_muV X hM (h_mo.1) (c_X10_behind_1 l E b (updC (updC mo 0 (updZ (updZ (updZ (mo 0) 9 (((nm ((mo 3)) (mo 0 8) (nd ((mo 3)) (mo 0 8) (nd (mo 3) (mo 0 8) (nd (mo 3) (mo 0 8) (nd (mo 3) (mo 0 8) (nd (mo 3) (mo 0 8) (nd (mo 3) (mo 0 8) (nd (mo 3) (mo 0 8) (nd (mo 3) (mo 0 8) (sp.1 + 1, sp.2) 117) 101) 115) 116) 105) 111) 110) 32) 2).2).1)) 10 (((nm ((mo 3)) (mo 0 8) (nd ((mo 3)) (mo 0 8) (nd (mo 3) (mo 0 8) (nd (mo 3) (mo 0 8) (nd (mo 3) (mo 0 8) (nd (mo 3) (mo 0 8) (nd (mo 3) (mo 0 8) (nd (mo 3) (mo 0 8) (nd (mo 3) (mo 0 8) (sp.1 + 1, sp.2) 117) 101) 115) 116) 105) 111) 110) 32) 2).2).2)) 15 (si + 1))) 4 (updZ (updZ (clB (mo 4) (5 * si) i) (5 * si) 113) (5 * si + 1) ((nm (mo 3) (mo 0 8) (nd (mo 3) (mo 0 8) (nd (mo 3) (mo 0 8) (nd (mo 3) (mo 0 8) (nd (mo 3) (mo 0 8) (nd (mo 3) (mo 0 8) (nd (mo 3) (mo 0 8) (nd (mo 3) (mo 0 8) (nd (mo 3) (mo 0 8) (sp.1 + 1, sp.2) 117) 101) 115) 116) 105) 111) 110) 32) 2).1))) ((nm (mo 3) (mo 0 8) (nd (mo 3) (mo 0 8) (nd (mo 3) (mo 0 8) (nd (mo 3) (mo 0 8) (nd (mo 3) (mo 0 8) (nd (mo 3) (mo 0 8) (nd (mo 3) (mo 0 8) (nd (mo 3) (mo 0 8) (nd (mo 3) (mo 0 8) (sp.1 + 1, sp.2) 117) 101) 115) 116) 105) 111) 110) 32) 2).2) hcr hn (by first | rfl | assumption) (by first | rfl | assumption) (show inS (mo 0 8) ((nm (mo 3) (mo 0 8) (nd (mo 3) (mo 0 8) (nd (mo 3) (mo 0 8) (nd (mo 3) (mo 0 8) (nd (mo 3) (mo 0 8) (nd (mo 3) (mo 0 8) (nd (mo 3) (mo 0 8) (nd (mo 3) (mo 0 8) (nd (mo 3) (mo 0 8) (sp.1 + 1, sp.2) 117) 101) 115) 116) 105) 111) 110) 32) 2).2) from (by first | assumption | (dsimp only [inS]; omega)))) kvX10_behind kiX10_behind kl_X10_194 (q0 := 0) rfl rfl (As := [.int (zI 1)]) rfl rfl rfl dX10_command_246 249 rfl (k' := 0) (n' := 0) rfl rfl (fsI (fun q q1 q2 => (Or.inl (fsH (by omega) (by omega))))) h_mo (fun rv H18 lo18 hM hF hpo => ?_)
                obtain ⟨rfl, hw_0⟩ := hpo
                have h_mo : PR E b (modelW E b (updC (updC mo 0 (updZ (updZ (updZ (mo 0) 9 (((nm ((mo 3)) (mo 0 8) (nd ((mo 3)) (mo 0 8) ((nm (mo 3) (mo 0 8) (nd (mo 3) (mo 0 8) (nd (mo 3) (mo 0 8) (nd (mo 3) (mo 0 8) (nd (mo 3) (mo 0 8) (nd (mo 3) (mo 0 8) (nd (mo 3) (mo 0 8) (nd (mo 3) (mo 0 8) (nd (mo 3) (mo 0 8) (sp.1 + 1, sp.2) 117) 101) 115) 116) 105) 111) 110) 32) 2).2) 32) 1).2).1)) 10 (((nm ((mo 3)) (mo 0 8) (nd ((mo 3)) (mo 0 8) ((nm (mo 3) (mo 0 8) (nd (mo 3) (mo 0 8) (nd (mo 3) (mo 0 8) (nd (mo 3) (mo 0 8) (nd (mo 3) (mo 0 8) (nd (mo 3) (mo 0 8) (nd (mo 3) (mo 0 8) (nd (mo 3) (mo 0 8) (nd (mo 3) (mo 0 8) (sp.1 + 1, sp.2) 117) 101) 115) 116) 105) 111) 110) 32) 2).2) 32) 1).2).2)) 15 (si + 1))) 4 (updZ (updZ (clB (mo 4) (5 * si) i) (5 * si) 113) (5 * si + 1) ((nm (mo 3) (mo 0 8) (nd (mo 3) (mo 0 8) (nd (mo 3) (mo 0 8) (nd (mo 3) (mo 0 8) (nd (mo 3) (mo 0 8) (nd (mo 3) (mo 0 8) (nd (mo 3) (mo 0 8) (nd (mo 3) (mo 0 8) (nd (mo 3) (mo 0 8) (sp.1 + 1, sp.2) 117) 101) 115) 116) 105) 111) 110) 32) 2).1)))) H18 := hw_0
                show V p l e (rmL 4 0 0) s m args below meth cd Q 4 H18 lo18 0 0 249 [(3, .int (zI 113)), (2, .int (zI (sgM (mo 3) (mo 0 8) sp.1))), (1, .int (zI (5 * si))), (0, .ref b)] [.int (zI ((nm (mo 3) (mo 0 8) (nd (mo 3) (mo 0 8) ((nm (mo 3) (mo 0 8) (nd (mo 3) (mo 0 8) (nd (mo 3) (mo 0 8) (nd (mo 3) (mo 0 8) (nd (mo 3) (mo 0 8) (nd (mo 3) (mo 0 8) (nd (mo 3) (mo 0 8) (nd (mo 3) (mo 0 8) (nd (mo 3) (mo 0 8) (sp.1 + 1, sp.2) 117) 101) 115) 116) 105) 111) 110) 32) 2).2) 32) 1).1)), .int (zI (5 * si + 2)), .ref (b + 4)]
                have hf_19 := nm_b ((mo 3)) (mo 0 8) (nd ((mo 3)) (mo 0 8) ((nm (mo 3) (mo 0 8) (nd (mo 3) (mo 0 8) (nd (mo 3) (mo 0 8) (nd (mo 3) (mo 0 8) (nd (mo 3) (mo 0 8) (nd (mo 3) (mo 0 8) (nd (mo 3) (mo 0 8) (nd (mo 3) (mo 0 8) (nd (mo 3) (mo 0 8) (sp.1 + 1, sp.2) 117) 101) 115) 116) 105) 111) 110) 32) 2).2) 32) 1 (nd_b _ _ _ _ (by first | assumption | (dsimp only [inS]; omega)) (by omega))
                refine v_iast X hM h_mo 4 rfl (by omega) (by omega) (by omega) (Or.inl (fsH (by omega) (by omega))) dX10_command_249 250 rfl (ws' := modelW E b (updC (updC mo 0 (updZ (updZ (updZ (mo 0) 9 (((nm ((mo 3)) (mo 0 8) (nd ((mo 3)) (mo 0 8) ((nm (mo 3) (mo 0 8) (nd (mo 3) (mo 0 8) (nd (mo 3) (mo 0 8) (nd (mo 3) (mo 0 8) (nd (mo 3) (mo 0 8) (nd (mo 3) (mo 0 8) (nd (mo 3) (mo 0 8) (nd (mo 3) (mo 0 8) (nd (mo 3) (mo 0 8) (sp.1 + 1, sp.2) 117) 101) 115) 116) 105) 111) 110) 32) 2).2) 32) 1).2).1)) 10 (((nm ((mo 3)) (mo 0 8) (nd ((mo 3)) (mo 0 8) ((nm (mo 3) (mo 0 8) (nd (mo 3) (mo 0 8) (nd (mo 3) (mo 0 8) (nd (mo 3) (mo 0 8) (nd (mo 3) (mo 0 8) (nd (mo 3) (mo 0 8) (nd (mo 3) (mo 0 8) (nd (mo 3) (mo 0 8) (nd (mo 3) (mo 0 8) (sp.1 + 1, sp.2) 117) 101) 115) 116) 105) 111) 110) 32) 2).2) 32) 1).2).2)) 15 (si + 1))) 4 (updZ (updZ (updZ (clB (mo 4) (5 * si) i) (5 * si) 113) (5 * si + 1) ((nm (mo 3) (mo 0 8) (nd (mo 3) (mo 0 8) (nd (mo 3) (mo 0 8) (nd (mo 3) (mo 0 8) (nd (mo 3) (mo 0 8) (nd (mo 3) (mo 0 8) (nd (mo 3) (mo 0 8) (nd (mo 3) (mo 0 8) (nd (mo 3) (mo 0 8) (sp.1 + 1, sp.2) 117) 101) 115) 116) 105) 111) 110) 32) 2).1)) (5 * si + 2) ((nm (mo 3) (mo 0 8) (nd (mo 3) (mo 0 8) ((nm (mo 3) (mo 0 8) (nd (mo 3) (mo 0 8) (nd (mo 3) (mo 0 8) (nd (mo 3) (mo 0 8) (nd (mo 3) (mo 0 8) (nd (mo 3) (mo 0 8) (nd (mo 3) (mo 0 8) (nd (mo 3) (mo 0 8) (nd (mo 3) (mo 0 8) (sp.1 + 1, sp.2) 117) 101) 115) 116) 105) 111) 110) 32) 2).2) 32) 1).1)))) rfl (fun H20 lo20 hzz hM hF h_mo => ?_)
                clear hzz
                refine v_aload_n X dX10_command_250 251 rfl 3 rfl ?_
                refine v_getf X hM.C h_mo.1 inX10 0 rfl rfl 14 (by decide) kf_X10_27 (fun _ h => h) rfl dX10_command_251 254 rfl ?_
                refine v_iload_n X dX10_command_254 255 rfl 2 rfl ?_
                refine v_iconst X dX10_command_255 256 rfl ?_
                refine v_iadd X dX10_command_256 257 rfl ?_
                refine v_aload_n X dX10_command_257 258 rfl 3 rfl ?_
                refine v_bipush X dX10_command_258 260 rfl rfl ?_
                refine v_bipush X dX10_command_260 262 rfl rfl ?_
                refine v_muV X hM (h_mo.1) (c_X10_either l E b (updC (updC mo 0 (updZ (updZ (updZ (mo 0) 9 (((nm ((mo 3)) (mo 0 8) (nd ((mo 3)) (mo 0 8) ((nm (mo 3) (mo 0 8) (nd (mo 3) (mo 0 8) (nd (mo 3) (mo 0 8) (nd (mo 3) (mo 0 8) (nd (mo 3) (mo 0 8) (nd (mo 3) (mo 0 8) (nd (mo 3) (mo 0 8) (nd (mo 3) (mo 0 8) (nd (mo 3) (mo 0 8) (sp.1 + 1, sp.2) 117) 101) 115) 116) 105) 111) 110) 32) 2).2) 32) 1).2).1)) 10 (((nm ((mo 3)) (mo 0 8) (nd ((mo 3)) (mo 0 8) ((nm (mo 3) (mo 0 8) (nd (mo 3) (mo 0 8) (nd (mo 3) (mo 0 8) (nd (mo 3) (mo 0 8) (nd (mo 3) (mo 0 8) (nd (mo 3) (mo 0 8) (nd (mo 3) (mo 0 8) (nd (mo 3) (mo 0 8) (nd (mo 3) (mo 0 8) (sp.1 + 1, sp.2) 117) 101) 115) 116) 105) 111) 110) 32) 2).2) 32) 1).2).2)) 15 (si + 1))) 4 (updZ (updZ (updZ (clB (mo 4) (5 * si) i) (5 * si) 113) (5 * si + 1) ((nm (mo 3) (mo 0 8) (nd (mo 3) (mo 0 8) (nd (mo 3) (mo 0 8) (nd (mo 3) (mo 0 8) (nd (mo 3) (mo 0 8) (nd (mo 3) (mo 0 8) (nd (mo 3) (mo 0 8) (nd (mo 3) (mo 0 8) (nd (mo 3) (mo 0 8) (sp.1 + 1, sp.2) 117) 101) 115) 116) 105) 111) 110) 32) 2).1)) (5 * si + 2) ((nm (mo 3) (mo 0 8) (nd (mo 3) (mo 0 8) ((nm (mo 3) (mo 0 8) (nd (mo 3) (mo 0 8) (nd (mo 3) (mo 0 8) (nd (mo 3) (mo 0 8) (nd (mo 3) (mo 0 8) (nd (mo 3) (mo 0 8) (nd (mo 3) (mo 0 8) (nd (mo 3) (mo 0 8) (nd (mo 3) (mo 0 8) (sp.1 + 1, sp.2) 117) 101) 115) 116) 105) 111) 110) 32) 2).2) 32) 1).1))) ((nm (mo 3) (mo 0 8) (nd (mo 3) (mo 0 8) ((nm (mo 3) (mo 0 8) (nd (mo 3) (mo 0 8) (nd (mo 3) (mo 0 8) (nd (mo 3) (mo 0 8) (nd (mo 3) (mo 0 8) (nd (mo 3) (mo 0 8) (nd (mo 3) (mo 0 8) (nd (mo 3) (mo 0 8) (nd (mo 3) (mo 0 8) (sp.1 + 1, sp.2) 117) 101) 115) 116) 105) 111) 110) 32) 2).2) 32) 1).2) 33 63 hcr hn (by first | rfl | assumption) (by first | rfl | assumption) (show inS (mo 0 8) ((nm (mo 3) (mo 0 8) (nd (mo 3) (mo 0 8) ((nm (mo 3) (mo 0 8) (nd (mo 3) (mo 0 8) (nd (mo 3) (mo 0 8) (nd (mo 3) (mo 0 8) (nd (mo 3) (mo 0 8) (nd (mo 3) (mo 0 8) (nd (mo 3) (mo 0 8) (nd (mo 3) (mo 0 8) (nd (mo 3) (mo 0 8) (sp.1 + 1, sp.2) 117) 101) 115) 116) 105) 111) 110) 32) 2).2) 32) 1).2) from (by first | assumption | (dsimp only [inS]; omega))) (by omega) (by omega)) kvX10_either kiX10_either kl_X10_197 (q0 := 0) rfl rfl (As := [.int (zI 33), .int (zI 63)]) rfl rfl rfl dX10_command_262 265 rfl (k' := 0) (n' := 0) rfl rfl (fsI (fun q q1 q2 => (Or.inl (fsH (by omega) (by omega))))) h_mo (fun rv H21 lo21 hM hF hpo => ?_)
                obtain ⟨rfl, hw_0⟩ := hpo
                have h_mo : PR E b (modelW E b (updC (updC mo 0 (updZ (updZ (updZ (mo 0) 9 (((ei ((mo 3)) (mo 0 8) ((nm (mo 3) (mo 0 8) (nd (mo 3) (mo 0 8) ((nm (mo 3) (mo 0 8) (nd (mo 3) (mo 0 8) (nd (mo 3) (mo 0 8) (nd (mo 3) (mo 0 8) (nd (mo 3) (mo 0 8) (nd (mo 3) (mo 0 8) (nd (mo 3) (mo 0 8) (nd (mo 3) (mo 0 8) (nd (mo 3) (mo 0 8) (sp.1 + 1, sp.2) 117) 101) 115) 116) 105) 111) 110) 32) 2).2) 32) 1).2) 33 63).2).1)) 10 (((ei ((mo 3)) (mo 0 8) ((nm (mo 3) (mo 0 8) (nd (mo 3) (mo 0 8) ((nm (mo 3) (mo 0 8) (nd (mo 3) (mo 0 8) (nd (mo 3) (mo 0 8) (nd (mo 3) (mo 0 8) (nd (mo 3) (mo 0 8) (nd (mo 3) (mo 0 8) (nd (mo 3) (mo 0 8) (nd (mo 3) (mo 0 8) (nd (mo 3) (mo 0 8) (sp.1 + 1, sp.2) 117) 101) 115) 116) 105) 111) 110) 32) 2).2) 32) 1).2) 33 63).2).2)) 15 (si + 1))) 4 (updZ (updZ (updZ (clB (mo 4) (5 * si) i) (5 * si) 113) (5 * si + 1) ((nm (mo 3) (mo 0 8) (nd (mo 3) (mo 0 8) (nd (mo 3) (mo 0 8) (nd (mo 3) (mo 0 8) (nd (mo 3) (mo 0 8) (nd (mo 3) (mo 0 8) (nd (mo 3) (mo 0 8) (nd (mo 3) (mo 0 8) (nd (mo 3) (mo 0 8) (sp.1 + 1, sp.2) 117) 101) 115) 116) 105) 111) 110) 32) 2).1)) (5 * si + 2) ((nm (mo 3) (mo 0 8) (nd (mo 3) (mo 0 8) ((nm (mo 3) (mo 0 8) (nd (mo 3) (mo 0 8) (nd (mo 3) (mo 0 8) (nd (mo 3) (mo 0 8) (nd (mo 3) (mo 0 8) (nd (mo 3) (mo 0 8) (nd (mo 3) (mo 0 8) (nd (mo 3) (mo 0 8) (nd (mo 3) (mo 0 8) (sp.1 + 1, sp.2) 117) 101) 115) 116) 105) 111) 110) 32) 2).2) 32) 1).1)))) H21 := hw_0
                show V p l e (rmL 4 0 0) s m args below meth cd Q 4 H21 lo21 0 0 265 [(3, .int (zI 113)), (2, .int (zI (sgM (mo 3) (mo 0 8) sp.1))), (1, .int (zI (5 * si))), (0, .ref b)] [.int (zI ((ei (mo 3) (mo 0 8) ((nm (mo 3) (mo 0 8) (nd (mo 3) (mo 0 8) ((nm (mo 3) (mo 0 8) (nd (mo 3) (mo 0 8) (nd (mo 3) (mo 0 8) (nd (mo 3) (mo 0 8) (nd (mo 3) (mo 0 8) (nd (mo 3) (mo 0 8) (nd (mo 3) (mo 0 8) (nd (mo 3) (mo 0 8) (nd (mo 3) (mo 0 8) (sp.1 + 1, sp.2) 117) 101) 115) 116) 105) 111) 110) 32) 2).2) 32) 1).2) 33 63).1)), .int (zI (5 * si + 3)), .ref (b + 4)]
                have hf_22 := ei_b ((mo 3)) (mo 0 8) ((nm (mo 3) (mo 0 8) (nd (mo 3) (mo 0 8) ((nm (mo 3) (mo 0 8) (nd (mo 3) (mo 0 8) (nd (mo 3) (mo 0 8) (nd (mo 3) (mo 0 8) (nd (mo 3) (mo 0 8) (nd (mo 3) (mo 0 8) (nd (mo 3) (mo 0 8) (nd (mo 3) (mo 0 8) (nd (mo 3) (mo 0 8) (sp.1 + 1, sp.2) 117) 101) 115) 116) 105) 111) 110) 32) 2).2) 32) 1).2) 33 63 (by first | assumption | (dsimp only [inS]; omega)) (by omega) (by omega)
                refine v_iast X hM h_mo 4 rfl (by omega) (by omega) (by omega) (Or.inl (fsH (by omega) (by omega))) dX10_command_265 266 rfl (ws' := modelW E b (updC (updC mo 0 (updZ (updZ (updZ (mo 0) 9 (((ei ((mo 3)) (mo 0 8) ((nm (mo 3) (mo 0 8) (nd (mo 3) (mo 0 8) ((nm (mo 3) (mo 0 8) (nd (mo 3) (mo 0 8) (nd (mo 3) (mo 0 8) (nd (mo 3) (mo 0 8) (nd (mo 3) (mo 0 8) (nd (mo 3) (mo 0 8) (nd (mo 3) (mo 0 8) (nd (mo 3) (mo 0 8) (nd (mo 3) (mo 0 8) (sp.1 + 1, sp.2) 117) 101) 115) 116) 105) 111) 110) 32) 2).2) 32) 1).2) 33 63).2).1)) 10 (((ei ((mo 3)) (mo 0 8) ((nm (mo 3) (mo 0 8) (nd (mo 3) (mo 0 8) ((nm (mo 3) (mo 0 8) (nd (mo 3) (mo 0 8) (nd (mo 3) (mo 0 8) (nd (mo 3) (mo 0 8) (nd (mo 3) (mo 0 8) (nd (mo 3) (mo 0 8) (nd (mo 3) (mo 0 8) (nd (mo 3) (mo 0 8) (nd (mo 3) (mo 0 8) (sp.1 + 1, sp.2) 117) 101) 115) 116) 105) 111) 110) 32) 2).2) 32) 1).2) 33 63).2).2)) 15 (si + 1))) 4 (updZ (updZ (updZ (updZ (clB (mo 4) (5 * si) i) (5 * si) 113) (5 * si + 1) ((nm (mo 3) (mo 0 8) (nd (mo 3) (mo 0 8) (nd (mo 3) (mo 0 8) (nd (mo 3) (mo 0 8) (nd (mo 3) (mo 0 8) (nd (mo 3) (mo 0 8) (nd (mo 3) (mo 0 8) (nd (mo 3) (mo 0 8) (nd (mo 3) (mo 0 8) (sp.1 + 1, sp.2) 117) 101) 115) 116) 105) 111) 110) 32) 2).1)) (5 * si + 2) ((nm (mo 3) (mo 0 8) (nd (mo 3) (mo 0 8) ((nm (mo 3) (mo 0 8) (nd (mo 3) (mo 0 8) (nd (mo 3) (mo 0 8) (nd (mo 3) (mo 0 8) (nd (mo 3) (mo 0 8) (nd (mo 3) (mo 0 8) (nd (mo 3) (mo 0 8) (nd (mo 3) (mo 0 8) (nd (mo 3) (mo 0 8) (sp.1 + 1, sp.2) 117) 101) 115) 116) 105) 111) 110) 32) 2).2) 32) 1).1)) (5 * si + 3) ((ei (mo 3) (mo 0 8) ((nm (mo 3) (mo 0 8) (nd (mo 3) (mo 0 8) ((nm (mo 3) (mo 0 8) (nd (mo 3) (mo 0 8) (nd (mo 3) (mo 0 8) (nd (mo 3) (mo 0 8) (nd (mo 3) (mo 0 8) (nd (mo 3) (mo 0 8) (nd (mo 3) (mo 0 8) (nd (mo 3) (mo 0 8) (nd (mo 3) (mo 0 8) (sp.1 + 1, sp.2) 117) 101) 115) 116) 105) 111) 110) 32) 2).2) 32) 1).2) 33 63).1)))) rfl (fun H23 lo23 hzz hM hF h_mo => ?_)
                clear hzz
                refine v_goto X dX10_command_266 269 (by decide) ?_
                subst hQ; exact m_vret X hr hlk hM dX10_command_269 rfl ⟨rfl, (PR.to h_mo (by rw [h5]))⟩
              · skip
                exfalso; omega
          · skip
            exfalso; omega
  · skip
    refine v_aload_n X dX10_command_29 30 rfl 3 rfl ?_
    refine v_getf X hM.C h_mo.1 inX10 0 rfl rfl 14 (by decide) kf_X10_27 (fun _ h => h) rfl dX10_command_30 33 rfl ?_
    refine v_iload_n X dX10_command_33 34 rfl 2 rfl ?_
    refine v_iload_n X dX10_command_34 35 rfl 0 rfl ?_
    refine v_iadd X dX10_command_35 36 rfl ?_
    refine v_iconst X dX10_command_36 37 rfl ?_
    refine v_iast X hM h_mo 4 rfl (by omega) (by omega) (by omega) (Or.inl (fsH (by omega) (by omega))) dX10_command_37 38 rfl (ws' := modelW E b (updC (updC mo 0 (updZ (updZ (updZ (mo 0) 9 sp.1) 10 sp.2) 15 (si + 1))) 4 (updZ (clB (mo 4) (5 * si) i) (5 * si + (i : Int)) 0))) rfl (fun H24 lo24 hzz hM hF h_mo => ?_)
    clear hzz
    refine v_iinc X dX10_command_38 41 rfl 0 rfl (by decide) (L' := [(3, .int (zI ((i : Int) + 1))), (2, .int (zI (sgM (mo 3) (mo 0 8) sp.1))), (1, .int (zI (5 * si))), (0, .ref b)]) rfl ?_
    refine v_goto X dX10_command_41 24 (by decide) ?_
    exact V_L (L' := [(3, .int (zI ((i + 1 : Nat) : Int))), (2, .int (zI (sgM (mo 3) (mo 0 8) sp.1))), (1, .int (zI (5 * si))), (0, .ref b)]) (LC (vz (by omega)) (LC rfl (LC rfl (LC rfl rfl)))) (ih_i (by omega) _ _ hM (PR.to h_mo (by rw [clB_s])))
set_option maxHeartbeats 4000000 in
set_option maxRecDepth 20000 in
theorem c_X10_command_d (l : Launch) (E : Nat → Nat → Nat) (b : Nat) (mo : Nat → Int → Int) (sp : Int × Int) (si : Int) (hcr : ∀ j : Int, 0 ≤ j → j < mo 0 8 → 0 ≤ mo 3 j ∧ mo 3 j < 128) (hn : 0 ≤ mo 0 8 ∧ mo 0 8 ≤ 60) (e9 : mo 0 9 = sp.1) (e10 : mo 0 10 = sp.2) (bs : inS (mo 0 8) sp) (hse : sp.2 = -1) (hsi : mo 0 15 = si) (si0 : 0 ≤ si) (si1 : si < 61) (hf1 : sgM (mo 3) (mo 0 8) sp.1 = 100) : Mu l yX10_command cX10_command 4 none 4 0 0 E [(b, 5)] [.ref b] (fun H => PR E b (modelW E b mo) H) (fun rv H => rv = none ∧ PR E b (modelW E b (updC (updC mo 0 (updZ (updZ (updZ (mo 0) 9 (((nm (mo 3) (mo 0 8) (nd (mo 3) (mo 0 8) (nd (mo 3) (mo 0 8) (nd (mo 3) (mo 0 8) (nd (mo 3) (mo 0 8) (nd (mo 3) (mo 0 8) (nd (mo 3) (mo 0 8) (sp.1 + 1, sp.2) 101) 99) 105) 100) 101) 32) 2).2).1)) 10 (((nm (mo 3) (mo 0 8) (nd (mo 3) (mo 0 8) (nd (mo 3) (mo 0 8) (nd (mo 3) (mo 0 8) (nd (mo 3) (mo 0 8) (nd (mo 3) (mo 0 8) (nd (mo 3) (mo 0 8) (sp.1 + 1, sp.2) 101) 99) 105) 100) 101) 32) 2).2).2)) 15 (si + 1))) 4 (updZ (updZ (clB (mo 4) (5 * si) 5) (5 * si) 100) (5 * si + 1) (nm (mo 3) (mo 0 8) (nd (mo 3) (mo 0 8) (nd (mo 3) (mo 0 8) (nd (mo 3) (mo 0 8) (nd (mo 3) (mo 0 8) (nd (mo 3) (mo 0 8) (nd (mo 3) (mo 0 8) (sp.1 + 1, sp.2) 101) 99) 105) 100) 101) 32) 2).1))) H) := by
  refine Mu.start (own := RX10) rfl (by decide +kernel) (Nat.le_of_ble_eq_true rfl) ?_
  intro p e s m below meth cd args Q hQ X hr hlk hnm hM hPr
  have h_mo := hPr
  have hbs := bs
  dsimp only [inS] at hbs
  replace h_mo : PR E b (modelW E b (updC mo 0 (updZ (updZ (mo 0) 9 sp.1) 10 sp.2))) s.heap := PR.to h_mo (by rw [upd_2 e9 e10])
  refine v_iconst X dX10_command_0 1 rfl ?_
  refine v_aload_n X dX10_command_1 2 rfl 0 rfl ?_
  refine v_getf X hM.C h_mo.1 inX10 0 rfl rfl 15 (by decide) kf_X10_188 (fun _ h => h) rfl dX10_command_2 5 rfl ?_
  show V p l e (rmL 4 0 0) s m args below meth cd Q 4 s.heap [] 0 0 5 [(0, .ref b)] [.int (zI (mo 0 15)), .int (zI 5)]
  refine v_imul X dX10_command_5 6 rfl ?_
  refine V_S (st' := [.int (zI (5 * si))]) (by rw [hsi]) ?_
  refine v_istore_n X dX10_command_6 7 rfl rfl (by decide) (L' := [(1, .int (zI (5 * si))), (0, .ref b)]) rfl ?_
  refine v_aload_n X dX10_command_7 8 rfl 1 rfl ?_
  refine v_dup X dX10_command_8 9 rfl rfl ?_
  refine v_getf X hM.C h_mo.1 inX10 0 rfl rfl 15 (by decide) kf_X10_188 (fun _ h => h) rfl dX10_command_9 12 rfl ?_
  show V p l e (rmL 4 0 0) s m args below meth cd Q 4 s.heap [] 0 0 12 [(1, .int (zI (5 * si))), (0, .ref b)] [.int (zI (mo 0 15)), .ref b]
  refine v_iconst X dX10_command_12 13 rfl ?_
  refine v_iadd X dX10_command_13 14 rfl ?_
  refine v_putf X hM h_mo ftX10 0 rfl rfl 15 (by decide) kf_X10_188 (fun _ h => h) rfl rfl rfl (Nat.le_of_ble_eq_true rfl) (Or.inl (fsH (by omega) (by omega))) dX10_command_14 17 rfl (ws' := modelW E b (updC mo 0 (updZ (updZ (updZ (mo 0) 9 sp.1) 10 sp.2) 15 (mo 0 15 + 1)))) rfl (fun H1 lo1 hzz hM hF h_mo => ?_)
  clear hzz
  rw [hsi] at h_mo
  refine v_aload_n X dX10_command_17 18 rfl 1 rfl ?_
  refine v_rdV X hM.C h_mo.1 (c_X10_sign l E b (updC mo 0 (updZ (updZ (updZ (mo 0) 9 sp.1) 10 sp.2) 15 (si + 1))) sp hcr hn (by first | rfl | assumption) bs) kvX10_sign kiX10_sign kl_X10_175 rfl rfl (As := []) rfl rfl rfl dX10_command_18 21 rfl ?_
  show V p l e (rmL 4 0 0) s m args below meth cd Q 4 H1 lo1 0 0 21 [(1, .int (zI (5 * si))), (0, .ref b)] [.int (zI (sgM (mo 3) (mo 0 8) sp.1))]
  have hf_2 := sgM_b ((mo 3)) (mo 0 8) sp.1 hcr (by first | omega | (dsimp only; omega))
  refine v_istore_n X dX10_command_21 22 rfl rfl (by decide) (L' := [(2, .int (zI (sgM (mo 3) (mo 0 8) sp.1))), (1, .int (zI (5 * si))), (0, .ref b)]) rfl ?_
  refine v_iconst X dX10_command_22 23 rfl ?_
  refine v_istore_n X dX10_command_23 24 rfl rfl (by decide) (L' := [(3, .int (zI 0)), (2, .int (zI (sgM (mo 3) (mo 0 8) sp.1))), (1, .int (zI (5 * si))), (0, .ref b)]) rfl ?_
  refine V_L (L' := [(3, .int (zI 0)), (2, .int (zI (sgM (mo 3) (mo 0 8) sp.1))), (1, .int (zI (5 * si))), (0, .ref b)]) (LC (vz (by rfl)) (LC rfl (LC rfl (LC rfl rfl)))) ?_
  refine up_loop 5 (P := fun (i : Nat) => ∀ (H : Heap) (lo : List Loc), MS E [(b, 5)] s H lo → PR E b (modelW E b (updC (updC mo 0 (updZ (updZ (updZ (mo 0) 9 sp.1) 10 sp.2) 15 (si + 1))) 4 (clB (mo 4) (5 * si) i))) H → V p l e (rmL 4 0 0) s m args below meth cd Q 4 H lo 0 0 24 [(3, .int (zI (i : Int))), (2, .int (zI (sgM (mo 3) (mo 0 8) sp.1))), (1, .int (zI (5 * si))), (0, .ref b)] []) (fun i hi_i ih_i H3 lo3 hM h_mo => ?_) _ _ hM (PR.to h_mo (by rw [clB_0]; rfl))
  refine v_iload_n X dX10_command_24 25 rfl 0 rfl ?_
  refine v_iconst X dX10_command_25 26 rfl ?_
  refine v_icmp_ge X (by omega) (by omega) dX10_command_26 29 44 rfl (by decide) (fun c_4 => ?_) (fun c_4 => ?_)
  · skip
    have h5 : i = 5 := by omega
    refine v_iload_n X dX10_command_44 45 rfl 1 rfl ?_
    refine v_bipush X dX10_command_45 47 rfl rfl ?_
    refine v_icmp_eq X (by omega) (by omega) dX10_command_47 50 89 rfl (by decide) (fun c_5 => ?_) (fun c_5 => ?_)
    · skip
      exfalso; omega
    · skip
      refine v_iload_n X dX10_command_50 51 rfl 1 rfl ?_
      refine v_bipush X dX10_command_51 53 rfl rfl ?_
      refine v_icmp_eq X (by omega) (by omega) dX10_command_53 56 89 rfl (by decide) (fun c_6 => ?_) (fun c_6 => ?_)
      · skip
        exfalso; omega
      · skip
        refine v_iload_n X dX10_command_56 57 rfl 1 rfl ?_
        refine v_bipush X dX10_command_57 59 rfl rfl ?_
        refine v_icmp_eq X (by omega) (by omega) dX10_command_59 62 89 rfl (by decide) (fun c_7 => ?_) (fun c_7 => ?_)
        · skip
          exfalso; omega
        · skip
          refine v_iload_n X dX10_command_62 63 rfl 1 rfl ?_
          refine v_bipush X dX10_command_63 65 rfl rfl ?_
          refine v_icmp_eq X (by omega) (by omega) dX10_command_65 68 89 rfl (by decide) (fun c_8 => ?_) (fun c_8 => ?_)
          · skip
            exfalso; omega
          · skip
            refine v_iload_n X dX10_command_68 69 rfl 1 rfl ?_
            refine v_bipush X dX10_command_69 71 rfl rfl ?_
            refine v_icmp_eq X (by omega) (by omega) dX10_command_71 74 89 rfl (by decide) (fun c_9 => ?_) (fun c_9 => ?_)
            · skip
              have hlt := sgM_lt (g := mo 3) (n := mo 0 8) (h := sp.1) (by omega)
              refine v_aload_n X dX10_command_89 90 rfl 3 rfl ?_
              refine v_dup X dX10_command_90 91 rfl rfl ?_
              refine v_getf X hM.C h_mo.1 inX10 0 rfl rfl 9 (by decide) kf_X10_169 (fun _ h => h) rfl dX10_command_91 94 rfl ?_
              show V p l e (rmL 4 0 0) s m args below meth cd Q 4 H3 lo3 0 0 94 [(3, .int (zI (i : Int))), (2, .int (zI (sgM (mo 3) (mo 0 8) sp.1))), (1, .int (zI (5 * si))), (0, .ref b)] [.int (zI sp.1), .ref b]
              refine v_iconst X dX10_command_94 95 rfl ?_
              refine v_iadd X dX10_command_95 96 rfl ?_
              refine v_putf X hM h_mo ftX10 0 rfl rfl 9 (by decide) kf_X10_169 (fun _ h => h) rfl rfl rfl (Nat.le_of_ble_eq_true rfl) (Or.inl (fsH (by omega) (by omega))) dX10_command_96 99 rfl (ws' := modelW E b (updC (updC mo 0 (updZ (updZ (updZ (mo 0) 9 (sp.1 + 1)) 10 sp.2) 15 (si + 1))) 4 (clB (mo 4) (5 * si) i))) rfl (fun H10 lo10 hzz hM hF h_mo => ?_)
              clear hzz
              refine v_aload_n X dX10_command_99 100 rfl 3 rfl ?_
              refine v_iload_n X dX10_command_100 101 rfl 1 rfl ?_
              refine V_S (st' := [.int (zI 100), .ref b]) (by rw [hf1]) ?_
              refine v_muV X hM (h_mo.1) (c_X10_word_100 l E b (updC (updC mo 0 (updZ (updZ (updZ (mo 0) 9 (sp.1 + 1)) 10 sp.2) 15 (si + 1))) 4 (clB (mo 4) (5 * si) i)) (sp.1 + 1, sp.2) hcr hn (by first | rfl | assumption) (by first | rfl | assumption) (show inS (mo 0 8) (sp.1 + 1, sp.2) from (by first | assumption | (dsimp only [inS]; omega)))) kvX10_word kiX10_word kl_X10_191 (q0 := 0) rfl rfl (As := [.int (zI 100)]) rfl rfl rfl dX10_command_101 104 rfl (k' := 0) (n' := 0) rfl rfl (fsI (fun q q1 q2 => (Or.inl (fsH (by omega) (by omega))))) h_mo (fun rv H11 lo11 hM hF hpo => ?_)
              obtain ⟨rfl, hw_0⟩ := hpo
              have h_mo : PR E b (modelW E b (updC (updC mo 0 (updZ (updZ (updZ (mo 0) 9 ((nd ((mo 3)) (mo 0 8) (nd ((mo 3)) (mo 0 8) (nd ((mo 3)) (mo 0 8) (nd ((mo 3)) (mo 0 8) (nd ((mo 3)) (mo 0 8) (sp.1 + 1, sp.2) 101) 99) 105) 100) 101).1)) 10 ((nd ((mo 3)) (mo 0 8) (nd ((mo 3)) (mo 0 8) (nd ((mo 3)) (mo 0 8) (nd ((mo 3)) (mo 0 8) (nd ((mo 3)) (mo 0 8) (sp.1 + 1, sp.2) 101) 99) 105) 100) 101).2)) 15 (si + 1))) 4 (clB (mo 4) (5 * si) i))) H11 := hw_0
              show V p l e (rmL 4 0 0) s m args below meth cd Q 4 H11 lo11 0 0 104 [(3, .int (zI (i : Int))), (2, .int (zI (sgM (mo 3) (mo 0 8) sp.1))), (1, .int (zI (5 * si))), (0, .ref b)] [.int (zI 100)]
              have hf_12 := ((nd_b _ _ _ _ (nd_b _ _ _ _ (nd_b _ _ _ _ (nd_b _ _ _ _ (nd_b _ _ _ _ (by first | assumption | (dsimp only [inS]; omega)) (by omega)) (by omega)) (by omega)) (by omega)) (by omega)) : inS (mo 0 8) (nd ((mo 3)) (mo 0 8) (nd ((mo 3)) (mo 0 8) (nd ((mo 3)) (mo 0 8) (nd ((mo 3)) (mo 0 8) (nd ((mo 3)) (mo 0 8) (sp.1 + 1, sp.2) 101) 99) 105) 100) 101))
              refine v_istore_n X dX10_command_104 105 rfl rfl (by decide) (L' := [(3, .int (zI 100)), (2, .int (zI (sgM (mo 3) (mo 0 8) sp.1))), (1, .int (zI (5 * si))), (0, .ref b)]) rfl ?_
              refine v_aload_n X dX10_command_105 106 rfl 3 rfl ?_
              refine v_getf X hM.C h_mo.1 inX10 0 rfl rfl 14 (by decide) kf_X10_27 (fun _ h => h) rfl dX10_command_106 109 rfl ?_
              refine v_iload_n X dX10_command_109 110 rfl 2 rfl ?_
              refine v_iload_n X dX10_command_110 111 rfl 0 rfl ?_
              refine v_iast X hM h_mo 4 rfl (by omega) (by omega) (by omega) (Or.inl (fsH (by omega) (by omega))) dX10_command_111 112 rfl (ws' := modelW E b (updC (updC mo 0 (updZ (updZ (updZ (mo 0) 9 ((nd ((mo 3)) (mo 0 8) (nd ((mo 3)) (mo 0 8) (nd ((mo 3)) (mo 0 8) (nd ((mo 3)) (mo 0 8) (nd ((mo 3)) (mo 0 8) (sp.1 + 1, sp.2) 101) 99) 105) 100) 101).1)) 10 ((nd ((mo 3)) (mo 0 8) (nd ((mo 3)) (mo 0 8) (nd ((mo 3)) (mo 0 8) (nd ((mo 3)) (mo 0 8) (nd ((mo 3)) (mo 0 8) (sp.1 + 1, sp.2) 101) 99) 105) 100) 101).2)) 15 (si + 1))) 4 (updZ (clB (mo 4) (5 * si) i) (5 * si) 100))) rfl (fun H13 lo13 hzz hM hF h_mo => ?_)
              clear hzz
              refine v_aload_n X dX10_command_112 113 rfl 3 rfl ?_
              refine v_getf X hM.C h_mo.1 inX10 0 rfl rfl 14 (by decide) kf_X10_27 (fun _ h => h) rfl dX10_command_113 116 rfl ?_
              refine v_iload_n X dX10_command_116 117 rfl 2 rfl ?_
              refine v_iconst X dX10_command_117 118 rfl ?_
              refine v_iadd X dX10_command_118 119 rfl ?_
              refine v_aload_n X dX10_command_119 120 rfl 3 rfl ?_
              refine v_iload_n X dX10_command_120 121 rfl 0 rfl ?_
              refine v_bipush X dX10_command_121 123 rfl rfl ?_
              refine v_icmp_eq X (by omega) (by omega) dX10_command_123 126 132 rfl (by decide) (fun c_14 => ?_) (fun c_14 => ?_)
              · skip
                exfalso; omega
              · skip
                refine v_iload_n X dX10_command_126 127 rfl 0 rfl ?_
                refine v_bipush X dX10_command_127 129 rfl rfl ?_
                refine v_icmp_ne X (by omega) (by omega) dX10_command_129 132 136 rfl (by decide) (fun c_15 => ?_) (fun c_15 => ?_)
                · skip
                  refine v_iconst X dX10_command_136 137 rfl ?_
                  refine v_muV X hM (h_mo.1) (c_X10_behind_2 l E b (updC (updC mo 0 (updZ (updZ (updZ (mo 0) 9 ((nd ((mo 3)) (mo 0 8) (nd ((mo 3)) (mo 0 8) (nd ((mo 3)) (mo 0 8) (nd ((mo 3)) (mo 0 8) (nd ((mo 3)) (mo 0 8) (sp.1 + 1, sp.2) 101) 99) 105) 100) 101).1)) 10 ((nd ((mo 3)) (mo 0 8) (nd ((mo 3)) (mo 0 8) (nd ((mo 3)) (mo 0 8) (nd ((mo 3)) (mo 0 8) (nd ((mo 3)) (mo 0 8) (sp.1 + 1, sp.2) 101) 99) 105) 100) 101).2)) 15 (si + 1))) 4 (updZ (clB (mo 4) (5 * si) i) (5 * si) 100)) (nd (mo 3) (mo 0 8) (nd (mo 3) (mo 0 8) (nd (mo 3) (mo 0 8) (nd (mo 3) (mo 0 8) (nd (mo 3) (mo 0 8) (sp.1 + 1, sp.2) 101) 99) 105) 100) 101) hcr hn (by first | rfl | assumption) (by first | rfl | assumption) (show inS (mo 0 8) (nd (mo 3) (mo 0 8) (nd (mo 3) (mo 0 8) (nd (mo 3) (mo 0 8) (nd (mo 3) (mo 0 8) (nd (mo 3) (mo 0 8) (sp.1 + 1, sp.2) 101) 99) 105) 100) 101) from (by first | assumption | (dsimp only [inS]; omega)))) kvX10_behind kiX10_behind kl_X10_194 (q0 := 0) rfl rfl (As := [.int (zI 2)]) rfl rfl rfl dX10_command_137 140 rfl (k' := 0) (n' := 0) rfl rfl (fsI (fun q q1 q2 => (Or.inl (fsH (by omega) (by omega))))) h_mo (fun rv H16 lo16 hM hF hpo => ?_)
                  obtain ⟨rfl, hw_0⟩ := hpo
                  have h_mo : PR E b (modelW E b (updC (updC mo 0 (updZ (updZ (updZ (mo 0) 9 (((nm ((mo 3)) (mo 0 8) (nd ((mo 3)) (mo 0 8) (nd (mo 3) (mo 0 8) (nd (mo 3) (mo 0 8) (nd (mo 3) (mo 0 8) (nd (mo 3) (mo 0 8) (nd (mo 3) (mo 0 8) (sp.1 + 1, sp.2) 101) 99) 105) 100) 101) 32) 2).2).1)) 10 (((nm ((mo 3)) (mo 0 8) (nd ((mo 3)) (mo 0 8) (nd (mo 3) (mo 0 8) (nd (mo 3) (mo 0 8) (nd (mo 3) (mo 0 8) (nd (mo 3) (mo 0 8) (nd (mo 3) (mo 0 8) (sp.1 + 1, sp.2) 101) 99) 105) 100) 101) 32) 2).2).2)) 15 (si + 1))) 4 (updZ (clB (mo 4) (5 * si) i) (5 * si) 100))) H16 := hw_0
                  show V p l e (rmL 4 0 0) s m args below meth cd Q 4 H16 lo16 0 0 140 [(3, .int (zI 100)), (2, .int (zI (sgM (mo 3) (mo 0 8) sp.1))), (1, .int (zI (5 * si))), (0, .ref b)] [.int (zI ((nm (mo 3) (mo 0 8) (nd (mo 3) (mo 0 8) (nd (mo 3) (mo 0 8) (nd (mo 3) (mo 0 8) (nd (mo 3) (mo 0 8) (nd (mo 3) (mo 0 8) (nd (mo 3) (mo 0 8) (sp.1 + 1, sp.2) 101) 99) 105) 100) 101) 32) 2).1)), .int (zI (5 * si + 1)), .ref (b + 4)]
                  have hf_17 := nm_b ((mo 3)) (mo 0 8) (nd ((mo 3)) (mo 0 8) (nd (mo 3) (mo 0 8) (nd (mo 3) (mo 0 8) (nd (mo 3) (mo 0 8) (nd (mo 3) (mo 0 8) (nd (mo 3) (mo 0 8) (sp.1 + 1, sp.2) 101) 99) 105) 100) 101) 32) 2 (nd_b _ _ _ _ (by first | assumption | (dsimp only [inS]; omega)) (by omega))
                  refine v_iast X hM h_mo 4 rfl (by omega) (by omega) (by omega) (Or.inl (fsH (by omega) (by omega))) dX10_command_140 141 rfl (ws' := modelW E b (updC (updC mo 0 (updZ (updZ (updZ (mo 0) 9 (((nm ((mo 3)) (mo 0 8) (nd ((mo 3)) (mo 0 8) (nd (mo 3) (mo 0 8) (nd (mo 3) (mo 0 8) (nd (mo 3) (mo 0 8) (nd (mo 3) (mo 0 8) (nd (mo 3) (mo 0 8) (sp.1 + 1, sp.2) 101) 99) 105) 100) 101) 32) 2).2).1)) 10 (((nm ((mo 3)) (mo 0 8) (nd ((mo 3)) (mo 0 8) (nd (mo 3) (mo 0 8) (nd (mo 3) (mo 0 8) (nd (mo 3) (mo 0 8) (nd (mo 3) (mo 0 8) (nd (mo 3) (mo 0 8) (sp.1 + 1, sp.2) 101) 99) 105) 100) 101) 32) 2).2).2)) 15 (si + 1))) 4 (updZ (updZ (clB (mo 4) (5 * si) i) (5 * si) 100) (5 * si + 1) ((nm (mo 3) (mo 0 8) (nd (mo 3) (mo 0 8) (nd (mo 3) (mo 0 8) (nd (mo 3) (mo 0 8) (nd (mo 3) (mo 0 8) (nd (mo 3) (mo 0 8) (nd (mo 3) (mo 0 8) (sp.1 + 1, sp.2) 101) 99) 105) 100) 101) 32) 2).1)))) rfl (fun H18 lo18 hzz hM hF h_mo => ?_)
                  clear hzz
                  refine v_iload_n X dX10_command_141 142 rfl 0 rfl ?_
                  refine v_lookup X dX10_command_142 (by decide) (off := 127) (by decide) 269 (by decide) ?_
                  subst hQ; exact m_vret X hr hlk hM dX10_command_269 rfl ⟨rfl, (PR.to h_mo (by rw [h5]))⟩
                · skip
                  exfalso; omega
            · skip
              exfalso; omega
  · skip
    refine v_aload_n X dX10_command_29 30 rfl 3 rfl ?_
    refine v_getf X hM.C h_mo.1 inX10 0 rfl rfl 14 (by decide) kf_X10_27 (fun _ h => h) rfl dX10_command_30 33 rfl ?_
    refine v_iload_n X dX10_command_33 34 rfl 2 rfl ?_
    refine v_iload_n X dX10_command_34 35 rfl 0 rfl ?_
    refine v_iadd X dX10_command_35 36 rfl ?_
    refine v_iconst X dX10_command_36 37 rfl ?_
    refine v_iast X hM h_mo 4 rfl (by omega) (by omega) (by omega) (Or.inl (fsH (by omega) (by omega))) dX10_command_37 38 rfl (ws' := modelW E b (updC (updC mo 0 (updZ (updZ (updZ (mo 0) 9 sp.1) 10 sp.2) 15 (si + 1))) 4 (updZ (clB (mo 4) (5 * si) i) (5 * si + (i : Int)) 0))) rfl (fun H19 lo19 hzz hM hF h_mo => ?_)
    clear hzz
    refine v_iinc X dX10_command_38 41 rfl 0 rfl (by decide) (L' := [(3, .int (zI ((i : Int) + 1))), (2, .int (zI (sgM (mo 3) (mo 0 8) sp.1))), (1, .int (zI (5 * si))), (0, .ref b)]) rfl ?_
    refine v_goto X dX10_command_41 24 (by decide) ?_
    exact V_L (L' := [(3, .int (zI ((i + 1 : Nat) : Int))), (2, .int (zI (sgM (mo 3) (mo 0 8) sp.1))), (1, .int (zI (5 * si))), (0, .ref b)]) (LC (vz (by omega)) (LC rfl (LC rfl (LC rfl rfl)))) (ih_i (by omega) _ _ hM (PR.to h_mo (by rw [clB_s])))
set_option maxHeartbeats 4000000 in
set_option maxRecDepth 20000 in
theorem c_X10_command_a (l : Launch) (E : Nat → Nat → Nat) (b : Nat) (mo : Nat → Int → Int) (sp : Int × Int) (si : Int) (hcr : ∀ j : Int, 0 ≤ j → j < mo 0 8 → 0 ≤ mo 3 j ∧ mo 3 j < 128) (hn : 0 ≤ mo 0 8 ∧ mo 0 8 ≤ 60) (e9 : mo 0 9 = sp.1) (e10 : mo 0 10 = sp.2) (bs : inS (mo 0 8) sp) (hse : sp.2 = -1) (hsi : mo 0 15 = si) (si0 : 0 ≤ si) (si1 : si < 61) (hf1 : sgM (mo 3) (mo 0 8) sp.1 = 97) : Mu l yX10_command cX10_command 4 none 4 0 0 E [(b, 5)] [.ref b] (fun H => PR E b (modelW E b mo) H) (fun rv H => rv = none ∧ PR E b (modelW E b (updC (updC mo 0 (updZ (updZ (updZ (mo 0) 9 (((nm (mo 3) (mo 0 8) (nd (mo 3) (mo 0 8) (nd (mo 3) (mo 0 8) (nd (mo 3) (mo 0 8) (nd (mo 3) (mo 0 8) (nd (mo 3) (mo 0 8) (nd (mo 3) (mo 0 8) (sp.1 + 1, sp.2) 112) 112) 101) 97) 108) 32) 2).2).1)) 10 (((nm (mo 3) (mo 0 8) (nd (mo 3) (mo 0 8) (nd (mo 3) (mo 0 8) (nd (mo 3) (mo 0 8) (nd (mo 3) (mo 0 8) (nd (mo 3) (mo 0 8) (nd (mo 3) (mo 0 8) (sp.1 + 1, sp.2) 112) 112) 101) 97) 108) 32) 2).2).2)) 15 (si + 1))) 4 (updZ (updZ (clB (mo 4) (5 * si) 5) (5 * si) 97) (5 * si + 1) (nm (mo 3) (mo 0 8) (nd (mo 3) (mo 0 8) (nd (mo 3) (mo 0 8) (nd (mo 3) (mo 0 8) (nd (mo 3) (mo 0 8) (nd (mo 3) (mo 0 8) (nd (mo 3) (mo 0 8) (sp.1 + 1, sp.2) 112) 112) 101) 97) 108) 32) 2).1))) H) := by
  refine Mu.start (own := RX10) rfl (by decide +kernel) (Nat.le_of_ble_eq_true rfl) ?_
  intro p e s m below meth cd args Q hQ X hr hlk hnm hM hPr
  have h_mo := hPr
  have hbs := bs
  dsimp only [inS] at hbs
  replace h_mo : PR E b (modelW E b (updC mo 0 (updZ (updZ (mo 0) 9 sp.1) 10 sp.2))) s.heap := PR.to h_mo (by rw [upd_2 e9 e10])
  refine v_iconst X dX10_command_0 1 rfl ?_
  refine v_aload_n X dX10_command_1 2 rfl 0 rfl ?_
  refine v_getf X hM.C h_mo.1 inX10 0 rfl rfl 15 (by decide) kf_X10_188 (fun _ h => h) rfl dX10_command_2 5 rfl ?_
  show V p l e (rmL 4 0 0) s m args below meth cd Q 4 s.heap [] 0 0 5 [(0, .ref b)] [.int (zI (mo 0 15)), .int (zI 5)]
  refine v_imul X dX10_command_5 6 rfl ?_
  refine V_S (st' := [.int (zI (5 * si))]) (by rw [hsi]) ?_
  refine v_istore_n X dX10_command_6 7 rfl rfl (by decide) (L' := [(1, .int (zI (5 * si))), (0, .ref b)]) rfl ?_
  refine v_aload_n X dX10_command_7 8 rfl 1 rfl ?_
  refine v_dup X dX10_command_8 9 rfl rfl ?_
  refine v_getf X hM.C h_mo.1 inX10 0 rfl rfl 15 (by decide) kf_X10_188 (fun _ h => h) rfl dX10_command_9 12 rfl ?_
  show V p l e (rmL 4 0 0) s m args below meth cd Q 4 s.heap [] 0 0 12 [(1, .int (zI (5 * si))), (0, .ref b)] [.int (zI (mo 0 15)), .ref b]
  refine v_iconst X dX10_command_12 13 rfl ?_
  refine v_iadd X dX10_command_13 14 rfl ?_
  refine v_putf X hM h_mo ftX10 0 rfl rfl 15 (by decide) kf_X10_188 (fun _ h => h) rfl rfl rfl (Nat.le_of_ble_eq_true rfl) (Or.inl (fsH (by omega) (by omega))) dX10_command_14 17 rfl (ws' := modelW E b (updC mo 0 (updZ (updZ (updZ (mo 0) 9 sp.1) 10 sp.2) 15 (mo 0 15 + 1)))) rfl (fun H1 lo1 hzz hM hF h_mo => ?_)
  clear hzz
  rw [hsi] at h_mo
  refine v_aload_n X dX10_command_17 18 rfl 1 rfl ?_
  refine v_rdV X hM.C h_mo.1 (c_X10_sign l E b (updC mo 0 (updZ (updZ (updZ (mo 0) 9 sp.1) 10 sp.2) 15 (si + 1))) sp hcr hn (by first | rfl | assumption) bs) kvX10_sign kiX10_sign kl_X10_175 rfl rfl (As := []) rfl rfl rfl dX10_command_18 21 rfl ?_
  show V p l e (rmL 4 0 0) s m args below meth cd Q 4 H1 lo1 0 0 21 [(1, .int (zI (5 * si))), (0, .ref b)] [.int (zI (sgM (mo 3) (mo 0 8) sp.1))]
  have hf_2 := sgM_b ((mo 3)) (mo 0 8) sp.1 hcr (by first | omega | (dsimp only; omega))
  refine v_istore_n X dX10_command_21 22 rfl rfl (by decide) (L' := [(2, .int (zI (sgM (mo 3) (mo 0 8) sp.1))), (1, .int (zI (5 * si))), (0, .ref b)]) rfl ?_
  refine v_iconst X dX10_command_22 23 rfl ?_
  refine v_istore_n X dX10_command_23 24 rfl rfl (by decide) (L' := [(3, .int (zI 0)), (2, .int (zI (sgM (mo 3) (mo 0 8) sp.1))), (1, .int (zI (5 * si))), (0, .ref b)]) rfl ?_
  refine V_L (L' := [(3, .int (zI 0)), (2, .int (zI (sgM (mo 3) (mo 0 8) sp.1))), (1, .int (zI (5 * si))), (0, .ref b)]) (LC (vz (by rfl)) (LC rfl (LC rfl (LC rfl rfl)))) ?_
  refine up_loop 5 (P := fun (i : Nat) => ∀ (H : Heap) (lo : List Loc), MS E [(b, 5)] s H lo → PR E b (modelW E b (updC (updC mo 0 (updZ (updZ (updZ (mo 0) 9 sp.1) 10 sp.2) 15 (si + 1))) 4 (clB (mo 4) (5 * si) i))) H → V p l e (rmL 4 0 0) s m args below meth cd Q 4 H lo 0 0 24 [(3, .int (zI (i : Int))), (2, .int (zI (sgM (mo 3) (mo 0 8) sp.1))), (1, .int (zI (5 * si))), (0, .ref b)] []) (fun i hi_i ih_i H3 lo3 hM h_mo => ?_) _ _ hM (PR.to h_mo (by rw [clB_0]; rfl))
  refine v_iload_n X dX10_command_24 25 rfl 0 rfl ?_
  refine v_iconst X dX10_command_25 26 rfl ?_
  refine v_icmp_ge X (by omega) (by omega) dX10_command_26 29 44 rfl (by decide) (fun c_4 => ?_) (fun c_4 => ?_)
  · skip
    have h5 : i = 5 := by omega
    refine v_iload_n X dX10_command_44 45 rfl 1 rfl ?_
    refine v_bipush X dX10_command_45 47 rfl rfl ?_
    refine v_icmp_eq X (by omega) (by omega) dX10_command_47 50 89 rfl (by decide) (fun c_5 => ?_) (fun c_5 => ?_)
    · skip
      exfalso; omega
    · skip
      refine v_iload_n X dX10_command_50 51 rfl 1 rfl ?_
      refine v_bipush X dX10_command_51 53 rfl rfl ?_
      refine v_icmp_eq X (by omega) (by omega) dX10_command_53 56 89 rfl (by decide) (fun c_6 => ?_) (fun c_6 => ?_)
      · skip
        exfalso; omega
      · skip
        refine v_iload_n X dX10_command_56 57 rfl 1 rfl ?_
        refine v_bipush X dX10_command_57 59 rfl rfl ?_
        refine v_icmp_eq X (by omega) (by omega) dX10_command_59 62 89 rfl (by decide) (fun c_7 => ?_) (fun c_7 => ?_)
        · skip
          exfalso; omega
        · skip
          refine v_iload_n X dX10_command_62 63 rfl 1 rfl ?_
          refine v_bipush X dX10_command_63 65 rfl rfl ?_
          refine v_icmp_eq X (by omega) (by omega) dX10_command_65 68 89 rfl (by decide) (fun c_8 => ?_) (fun c_8 => ?_)
          · skip
            exfalso; omega
          · skip
            refine v_iload_n X dX10_command_68 69 rfl 1 rfl ?_
            refine v_bipush X dX10_command_69 71 rfl rfl ?_
            refine v_icmp_eq X (by omega) (by omega) dX10_command_71 74 89 rfl (by decide) (fun c_9 => ?_) (fun c_9 => ?_)
            · skip
              exfalso; omega
            · skip
              refine v_iload_n X dX10_command_74 75 rfl 1 rfl ?_
              refine v_bipush X dX10_command_75 77 rfl rfl ?_
              refine v_icmp_eq X (by omega) (by omega) dX10_command_77 80 89 rfl (by decide) (fun c_10 => ?_) (fun c_10 => ?_)
              · skip
                have hlt := sgM_lt (g := mo 3) (n := mo 0 8) (h := sp.1) (by omega)
                refine v_aload_n X dX10_command_89 90 rfl 3 rfl ?_
                refine v_dup X dX10_command_90 91 rfl rfl ?_
                refine v_getf X hM.C h_mo.1 inX10 0 rfl rfl 9 (by decide) kf_X10_169 (fun _ h => h) rfl dX10_command_91 94 rfl ?_
                show V p l e (rmL 4 0 0) s m args below meth cd Q 4 H3 lo3 0 0 94 [(3, .int (zI (i : Int))), (2, .int (zI (sgM (mo 3) (mo 0 8) sp.1))), (1, .int (zI (5 * si))), (0, .ref b)] [.int (zI sp.1), .ref b]
                refine v_iconst X dX10_command_94 95 rfl ?_
                refine v_iadd X dX10_command_95 96 rfl ?_
                refine v_putf X hM h_mo ftX10 0 rfl rfl 9 (by decide) kf_X10_169 (fun _ h => h) rfl rfl rfl (Nat.le_of_ble_eq_true rfl) (Or.inl (fsH (by omega) (by omega))) dX10_command_96 99 rfl (ws' := modelW E b (updC (updC mo 0 (updZ (updZ (updZ (mo 0) 9 (sp.1 + 1)) 10 sp.2) 15 (si + 1))) 4 (clB (mo 4) (5 * si) i))) rfl (fun H11 lo11 hzz hM hF h_mo => ?_)
                clear hzz
                refine v_aload_n X dX10_command_99 100 rfl 3 rfl ?_
                refine v_iload_n X dX10_command_100 101 rfl 1 rfl ?_
                refine V_S (st' := [.int (zI 97), .ref b]) (by rw [hf1]) ?_
                refine v_muV X hM (h_mo.1) (c_X10_word_97 l E b (updC (updC mo 0 (updZ (updZ (updZ (mo 0) 9 (sp.1 + 1)) 10 sp.2) 15 (si + 1))) 4 (clB (mo 4) (5 * si) i)) (sp.1 + 1, sp.2) hcr hn (by first | rfl | assumption) (by first | rfl | assumption) (show inS (mo 0 8) (sp.1 + 1, sp.2) from (by first | assumption | (dsimp only [inS]; omega)))) kvX10_word kiX10_word kl_X10_191 (q0 := 0) rfl rfl (As := [.int (zI 97)]) rfl rfl rfl dX10_command_101 104 rfl (k' := 0) (n' := 0) rfl rfl (fsI (fun q q1 q2 => (Or.inl (fsH (by omega) (by omega))))) h_mo (fun rv H12 lo12 hM hF hpo => ?_)
                obtain ⟨rfl, hw_0⟩ := hpo
                have h_mo : PR E b (modelW E b (updC (updC mo 0 (updZ (updZ (updZ (mo 0) 9 ((nd ((mo 3)) (mo 0 8) (nd ((mo 3)) (mo 0 8) (nd ((mo 3)) (mo 0 8) (nd ((mo 3)) (mo 0 8) (nd ((mo 3)) (mo 0 8) (sp.1 + 1, sp.2) 112) 112) 101) 97) 108).1)) 10 ((nd ((mo 3)) (mo 0 8) (nd ((mo 3)) (mo 0 8) (nd ((mo 3)) (mo 0 8) (nd ((mo 3)) (mo 0 8) (nd ((mo 3)) (mo 0 8) (sp.1 + 1, sp.2) 112) 112) 101) 97) 108).2)) 15 (si + 1))) 4 (clB (mo 4) (5 * si) i))) H12 := hw_0
                show V p l e (rmL 4 0 0) s m args below meth cd Q 4 H12 lo12 0 0 104 [(3, .int (zI (i : Int))), (2, .int (zI (sgM (mo 3) (mo 0 8) sp.1))), (1, .int (zI (5 * si))), (0, .ref b)] [.int (zI 97)]
                have hf_13 := ((nd_b _ _ _ _ (nd_b _ _ _ _ (nd_b _ _ _ _ (nd_b _ _ _ _ (nd_b _ _ _ _ (by first | assumption | (dsimp only [inS]; omega)) (by omega)) (by omega)) (by omega)) (by omega)) (by omega)) : inS (mo 0 8) (nd ((mo 3)) (mo 0 8) (nd ((mo 3)) (mo 0 8) (nd ((mo 3)) (mo 0 8) (nd ((mo 3)) (mo 0 8) (nd ((mo 3)) (mo 0 8) (sp.1 + 1, sp.2) 112) 112) 101) 97) 108))
                refine v_istore_n X dX10_command_104 105 rfl rfl (by decide) (L' := [(3, .int (zI 97)), (2, .int (zI (sgM (mo 3) (mo 0 8) sp.1))), (1, .int (zI (5 * si))), (0, .ref b)]) rfl ?_
                refine v_aload_n X dX10_command_105 106 rfl 3 rfl ?_
                refine v_getf X hM.C h_mo.1 inX10 0 rfl rfl 14 (by decide) kf_X10_27 (fun _ h => h) rfl dX10_command_106 109 rfl ?_
                refine v_iload_n X dX10_command_109 110 rfl 2 rfl ?_
                refine v_iload_n X dX10_command_110 111 rfl 0 rfl ?_
                refine v_iast X hM h_mo 4 rfl (by omega) (by omega) (by omega) (Or.inl (fsH (by omega) (by omega))) dX10_command_111 112 rfl (ws' := modelW E b (updC (updC mo 0 (updZ (updZ (updZ (mo 0) 9 ((nd ((mo 3)) (mo 0 8) (nd ((mo 3)) (mo 0 8) (nd ((mo 3)) (mo 0 8) (nd ((mo 3)) (mo 0 8) (nd ((mo 3)) (mo 0 8) (sp.1 + 1, sp.2) 112) 112) 101) 97) 108).1)) 10 ((nd ((mo 3)) (mo 0 8) (nd ((mo 3)) (mo 0 8) (nd ((mo 3)) (mo 0 8) (nd ((mo 3)) (mo 0 8) (nd ((mo 3)) (mo 0 8) (sp.1 + 1, sp.2) 112) 112) 101) 97) 108).2)) 15 (si + 1))) 4 (updZ (clB (mo 4) (5 * si) i) (5 * si) 97))) rfl (fun H14 lo14 hzz hM hF h_mo => ?_)
                clear hzz
                refine v_aload_n X dX10_command_112 113 rfl 3 rfl ?_
                refine v_getf X hM.C h_mo.1 inX10 0 rfl rfl 14 (by decide) kf_X10_27 (fun _ h => h) rfl dX10_command_113 116 rfl ?_
                refine v_iload_n X dX10_command_116 117 rfl 2 rfl ?_
                refine v_iconst X dX10_command_117 118 rfl ?_
                refine v_iadd X dX10_command_118 119 rfl ?_
                refine v_aload_n X dX10_command_119 120 rfl 3 rfl ?_
                refine v_iload_n X dX10_command_120 121 rfl 0 rfl ?_
                refine v_bipush X dX10_command_121 123 rfl rfl ?_
                refine v_icmp_eq X (by omega) (by omega) dX10_command_123 126 132 rfl (by decide) (fun c_15 => ?_) (fun c_15 => ?_)
                · skip
                  exfalso; omega
                · skip
                  refine v_iload_n X dX10_command_126 127 rfl 0 rfl ?_
                  refine v_bipush X dX10_command_127 129 rfl rfl ?_
                  refine v_icmp_ne X (by omega) (by omega) dX10_command_129 132 136 rfl (by decide) (fun c_16 => ?_) (fun c_16 => ?_)
                  · skip
                    refine v_iconst X dX10_command_136 137 rfl ?_
                    refine v_muV X hM (h_mo.1) (c_X10_behind_2 l E b (updC (updC mo 0 (updZ (updZ (updZ (mo 0) 9 ((nd ((mo 3)) (mo 0 8) (nd ((mo 3)) (mo 0 8) (nd ((mo 3)) (mo 0 8) (nd ((mo 3)) (mo 0 8) (nd ((mo 3)) (mo 0 8) (sp.1 + 1, sp.2) 112) 112) 101) 97) 108).1)) 10 ((nd ((mo 3)) (mo 0 8) (nd ((mo 3)) (mo 0 8) (nd ((mo 3)) (mo 0 8) (nd ((mo 3)) (mo 0 8) (nd ((mo 3)) (mo 0 8) (sp.1 + 1, sp.2) 112) 112) 101) 97) 108).2)) 15 (si + 1))) 4 (updZ (clB (mo 4) (5 * si) i) (5 * si) 97)) (nd (mo 3) (mo 0 8) (nd (mo 3) (mo 0 8) (nd (mo 3) (mo 0 8) (nd (mo 3) (mo 0 8) (nd (mo 3) (mo 0 8) (sp.1 + 1, sp.2) 112) 112) 101) 97) 108) hcr hn (by first | rfl | assumption) (by first | rfl | assumption) (show inS (mo 0 8) (nd (mo 3) (mo 0 8) (nd (mo 3) (mo 0 8) (nd (mo 3) (mo 0 8) (nd (mo 3) (mo 0 8) (nd (mo 3) (mo 0 8) (sp.1 + 1, sp.2) 112) 112) 101) 97) 108) from (by first | assumption | (dsimp only [inS]; omega)))) kvX10_behind kiX10_behind kl_X10_194 (q0 := 0) rfl rfl (As := [.int (zI 2)]) rfl rfl rfl dX10_command_137 140 rfl (k' := 0) (n' := 0) rfl rfl (fsI (fun q q1 q2 => (Or.inl (fsH (by omega) (by omega))))) h_mo (fun rv H17 lo17 hM hF hpo => ?_)
                    obtain ⟨rfl, hw_0⟩ := hpo
                    have h_mo : PR E b (modelW E b (updC (updC mo 0 (updZ (updZ (updZ (mo 0) 9 (((nm ((mo 3)) (mo 0 8) (nd ((mo 3)) (mo 0 8) (nd (mo 3) (mo 0 8) (nd (mo 3) (mo 0 8) (nd (mo 3) (mo 0 8) (nd (mo 3) (mo 0 8) (nd (mo 3) (mo 0 8) (sp.1 + 1, sp.2) 112) 112) 101) 97) 108) 32) 2).2).1)) 10 (((nm ((mo 3)) (mo 0 8) (nd ((mo 3)) (mo 0 8) (nd (mo 3) (mo 0 8) (nd (mo 3) (mo 0 8) (nd (mo 3) (mo 0 8) (nd (mo 3) (mo 0 8) (nd (mo 3) (mo 0 8) (sp.1 + 1, sp.2) 112) 112) 101) 97) 108) 32) 2).2).2)) 15 (si + 1))) 4 (updZ (clB (mo 4) (5 * si) i) (5 * si) 97))) H17 := hw_0
                    show V p l e (rmL 4 0 0) s m args below meth cd Q 4 H17 lo17 0 0 140 [(3, .int (zI 97)), (2, .int (zI (sgM (mo 3) (mo 0 8) sp.1))), (1, .int (zI (5 * si))), (0, .ref b)] [.int (zI ((nm (mo 3) (mo 0 8) (nd (mo 3) (mo 0 8) (nd (mo 3) (mo 0 8) (nd (mo 3) (mo 0 8) (nd (mo 3) (mo 0 8) (nd (mo 3) (mo 0 8) (nd (mo 3) (mo 0 8) (sp.1 + 1, sp.2) 112) 112) 101) 97) 108) 32) 2).1)), .int (zI (5 * si + 1)), .ref (b + 4)]
                    have hf_18 := nm_b ((mo 3)) (mo 0 8) (nd ((mo 3)) (mo 0 8) (nd (mo 3) (mo 0 8) (nd (mo 3) (mo 0 8) (nd (mo 3) (mo 0 8) (nd (mo 3) (mo 0 8) (nd (mo 3) (mo 0 8) (sp.1 + 1, sp.2) 112) 112) 101) 97) 108) 32) 2 (nd_b _ _ _ _ (by first | assumption | (dsimp only [inS]; omega)) (by omega))
                    refine v_iast X hM h_mo 4 rfl (by omega) (by omega) (by omega) (Or.inl (fsH (by omega) (by omega))) dX10_command_140 141 rfl (ws' := modelW E b (updC (updC mo 0 (updZ (updZ (updZ (mo 0) 9 (((nm ((mo 3)) (mo 0 8) (nd ((mo 3)) (mo 0 8) (nd (mo 3) (mo 0 8) (nd (mo 3) (mo 0 8) (nd (mo 3) (mo 0 8) (nd (mo 3) (mo 0 8) (nd (mo 3) (mo 0 8) (sp.1 + 1, sp.2) 112) 112) 101) 97) 108) 32) 2).2).1)) 10 (((nm ((mo 3)) (mo 0 8) (nd ((mo 3)) (mo 0 8) (nd (mo 3) (mo 0 8) (nd (mo 3) (mo 0 8) (nd (mo 3) (mo 0 8) (nd (mo 3) (mo 0 8) (nd (mo 3) (mo 0 8) (sp.1 + 1, sp.2) 112) 112) 101) 97) 108) 32) 2).2).2)) 15 (si + 1))) 4 (updZ (updZ (clB (mo 4) (5 * si) i) (5 * si) 97) (5 * si + 1) ((nm (mo 3) (mo 0 8) (nd (mo 3) (mo 0 8) (nd (mo 3) (mo 0 8) (nd (mo 3) (mo 0 8) (nd (mo 3) (mo 0 8) (nd (mo 3) (mo 0 8) (nd (mo 3) (mo 0 8) (sp.1 + 1, sp.2) 112) 112) 101) 97) 108) 32) 2).1)))) rfl (fun H19 lo19 hzz hM hF h_mo => ?_)
                    clear hzz
                    refine v_iload_n X dX10_command_141 142 rfl 0 rfl ?_
                    refine v_lookup X dX10_command_142 (by decide) (off := 127) (by decide) 269 (by decide) ?_
                    subst hQ; exact m_vret X hr hlk hM dX10_command_269 rfl ⟨rfl, (PR.to h_mo (by rw [h5]))⟩
                  · skip
                    exfalso; omega
              · skip
                exfalso; omega
  · skip
    refine v_aload_n X dX10_command_29 30 rfl 3 rfl ?_
    refine v_getf X hM.C h_mo.1 inX10 0 rfl rfl 14 (by decide) kf_X10_27 (fun _ h => h) rfl dX10_command_30 33 rfl ?_
    refine v_iload_n X dX10_command_33 34 rfl 2 rfl ?_
    refine v_iload_n X dX10_command_34 35 rfl 0 rfl ?_
    refine v_iadd X dX10_command_35 36 rfl ?_
    refine v_iconst X dX10_command_36 37 rfl ?_
    refine v_iast X hM h_mo 4 rfl (by omega) (by omega) (by omega) (Or.inl (fsH (by omega) (by omega))) dX10_command_37 38 rfl (ws' := modelW E b (updC (updC mo 0 (updZ (updZ (updZ (mo 0) 9 sp.1) 10 sp.2) 15 (si + 1))) 4 (updZ (clB (mo 4) (5 * si) i) (5 * si + (i : Int)) 0))) rfl (fun H20 lo20 hzz hM hF h_mo => ?_)
    clear hzz
    refine v_iinc X dX10_command_38 41 rfl 0 rfl (by decide) (L' := [(3, .int (zI ((i : Int) + 1))), (2, .int (zI (sgM (mo 3) (mo 0 8) sp.1))), (1, .int (zI (5 * si))), (0, .ref b)]) rfl ?_
    refine v_goto X dX10_command_41 24 (by decide) ?_
    exact V_L (L' := [(3, .int (zI ((i + 1 : Nat) : Int))), (2, .int (zI (sgM (mo 3) (mo 0 8) sp.1))), (1, .int (zI (5 * si))), (0, .ref b)]) (LC (vz (by omega)) (LC rfl (LC rfl (LC rfl rfl)))) (ih_i (by omega) _ _ hM (PR.to h_mo (by rw [clB_s])))
set_option maxHeartbeats 4000000 in
set_option maxRecDepth 20000 in
theorem c_X10_command_l (l : Launch) (E : Nat → Nat → Nat) (b : Nat) (mo : Nat → Int → Int) (sp : Int × Int) (si : Int) (hcr : ∀ j : Int, 0 ≤ j → j < mo 0 8 → 0 ≤ mo 3 j ∧ mo 3 j < 128) (hn : 0 ≤ mo 0 8 ∧ mo 0 8 ≤ 60) (e9 : mo 0 9 = sp.1) (e10 : mo 0 10 = sp.2) (bs : inS (mo 0 8) sp) (hse : sp.2 = -1) (hsi : mo 0 15 = si) (si0 : 0 ≤ si) (si1 : si < 61) (hf1 : sgM (mo 3) (mo 0 8) sp.1 = 99) (hl : sgM (mo 3) (mo 0 8) (sp.1 + 1) = 108) : Mu l yX10_command cX10_command 4 none 4 0 0 E [(b, 5)] [.ref b] (fun H => PR E b (modelW E b mo) H) (fun rv H => rv = none ∧ PR E b (modelW E b (updC (updC mo 0 (updZ (updZ (updZ (mo 0) 9 (((nm (mo 3) (mo 0 8) (nd (mo 3) (mo 0 8) (nd (mo 3) (mo 0 8) (nd (mo 3) (mo 0 8) (nd (mo 3) (mo 0 8) (nd (mo 3) (mo 0 8) (sp.1 + 1, sp.2) 108) 111) 115) 101) 32) 2).2).1)) 10 (((nm (mo 3) (mo 0 8) (nd (mo 3) (mo 0 8) (nd (mo 3) (mo 0 8) (nd (mo 3) (mo 0 8) (nd (mo 3) (mo 0 8) (nd (mo 3) (mo 0 8) (sp.1 + 1, sp.2) 108) 111) 115) 101) 32) 2).2).2)) 15 (si + 1))) 4 (updZ (updZ (clB (mo 4) (5 * si) 5) (5 * si) 108) (5 * si + 1) (nm (mo 3) (mo 0 8) (nd (mo 3) (mo 0 8) (nd (mo 3) (mo 0 8) (nd (mo 3) (mo 0 8) (nd (mo 3) (mo 0 8) (nd (mo 3) (mo 0 8) (sp.1 + 1, sp.2) 108) 111) 115) 101) 32) 2).1))) H) := by
  refine Mu.start (own := RX10) rfl (by decide +kernel) (Nat.le_of_ble_eq_true rfl) ?_
  intro p e s m below meth cd args Q hQ X hr hlk hnm hM hPr
  have h_mo := hPr
  have hbs := bs
  dsimp only [inS] at hbs
  replace h_mo : PR E b (modelW E b (updC mo 0 (updZ (updZ (mo 0) 9 sp.1) 10 sp.2))) s.heap := PR.to h_mo (by rw [upd_2 e9 e10])
  refine v_iconst X dX10_command_0 1 rfl ?_
  refine v_aload_n X dX10_command_1 2 rfl 0 rfl ?_
  refine v_getf X hM.C h_mo.1 inX10 0 rfl rfl 15 (by decide) kf_X10_188 (fun _ h => h) rfl dX10_command_2 5 rfl ?_
  show V p l e (rmL 4 0 0) s m args below meth cd Q 4 s.heap [] 0 0 5 [(0, .ref b)] [.int (zI (mo 0 15)), .int (zI 5)]
  refine v_imul X dX10_command_5 6 rfl ?_
  refine V_S (st' := [.int (zI (5 * si))]) (by rw [hsi]) ?_
  refine v_istore_n X dX10_command_6 7 rfl rfl (by decide) (L' := [(1, .int (zI (5 * si))), (0, .ref b)]) rfl ?_
  refine v_aload_n X dX10_command_7 8 rfl 1 rfl ?_
  refine v_dup X dX10_command_8 9 rfl rfl ?_
  refine v_getf X hM.C h_mo.1 inX10 0 rfl rfl 15 (by decide) kf_X10_188 (fun _ h => h) rfl dX10_command_9 12 rfl ?_
  show V p l e (rmL 4 0 0) s m args below meth cd Q 4 s.heap [] 0 0 12 [(1, .int (zI (5 * si))), (0, .ref b)] [.int (zI (mo 0 15)), .ref b]
  refine v_iconst X dX10_command_12 13 rfl ?_
  refine v_iadd X dX10_command_13 14 rfl ?_
  refine v_putf X hM h_mo ftX10 0 rfl rfl 15 (by decide) kf_X10_188 (fun _ h => h) rfl rfl rfl (Nat.le_of_ble_eq_true rfl) (Or.inl (fsH (by omega) (by omega))) dX10_command_14 17 rfl (ws' := modelW E b (updC mo 0 (updZ (updZ (updZ (mo 0) 9 sp.1) 10 sp.2) 15 (mo 0 15 + 1)))) rfl (fun H1 lo1 hzz hM hF h_mo => ?_)
  clear hzz
  rw [hsi] at h_mo
  refine v_aload_n X dX10_command_17 18 rfl 1 rfl ?_
  refine v_rdV X hM.C h_mo.1 (c_X10_sign l E b (updC mo 0 (updZ (updZ (updZ (mo 0) 9 sp.1) 10 sp.2) 15 (si + 1))) sp hcr hn (by first | rfl | assumption) bs) kvX10_sign kiX10_sign kl_X10_175 rfl rfl (As := []) rfl rfl rfl dX10_command_18 21 rfl ?_
  show V p l e (rmL 4 0 0) s m args below meth cd Q 4 H1 lo1 0 0 21 [(1, .int (zI (5 * si))), (0, .ref b)] [.int (zI (sgM (mo 3) (mo 0 8) sp.1))]
  have hf_2 := sgM_b ((mo 3)) (mo 0 8) sp.1 hcr (by first | omega | (dsimp only; omega))
  refine v_istore_n X dX10_command_21 22 rfl rfl (by decide) (L' := [(2, .int (zI (sgM (mo 3) (mo 0 8) sp.1))), (1, .int (zI (5 * si))), (0, .ref b)]) rfl ?_
  refine v_iconst X dX10_command_22 23 rfl ?_
  refine v_istore_n X dX10_command_23 24 rfl rfl (by decide) (L' := [(3, .int (zI 0)), (2, .int (zI (sgM (mo 3) (mo 0 8) sp.1))), (1, .int (zI (5 * si))), (0, .ref b)]) rfl ?_
  refine V_L (L' := [(3, .int (zI 0)), (2, .int (zI (sgM (mo 3) (mo 0 8) sp.1))), (1, .int (zI (5 * si))), (0, .ref b)]) (LC (vz (by rfl)) (LC rfl (LC rfl (LC rfl rfl)))) ?_
  refine up_loop 5 (P := fun (i : Nat) => ∀ (H : Heap) (lo : List Loc), MS E [(b, 5)] s H lo → PR E b (modelW E b (updC (updC mo 0 (updZ (updZ (updZ (mo 0) 9 sp.1) 10 sp.2) 15 (si + 1))) 4 (clB (mo 4) (5 * si) i))) H → V p l e (rmL 4 0 0) s m args below meth cd Q 4 H lo 0 0 24 [(3, .int (zI (i : Int))), (2, .int (zI (sgM (mo 3) (mo 0 8) sp.1))), (1, .int (zI (5 * si))), (0, .ref b)] []) (fun i hi_i ih_i H3 lo3 hM h_mo => ?_) _ _ hM (PR.to h_mo (by rw [clB_0]; rfl))
  refine v_iload_n X dX10_command_24 25 rfl 0 rfl ?_
  refine v_iconst X dX10_command_25 26 rfl ?_
  refine v_icmp_ge X (by omega) (by omega) dX10_command_26 29 44 rfl (by decide) (fun c_4 => ?_) (fun c_4 => ?_)
  · skip
    have h5 : i = 5 := by omega
    refine v_iload_n X dX10_command_44 45 rfl 1 rfl ?_
    refine v_bipush X dX10_command_45 47 rfl rfl ?_
    refine v_icmp_eq X (by omega) (by omega) dX10_command_47 50 89 rfl (by decide) (fun c_5 => ?_) (fun c_5 => ?_)
    · skip
      have hlt := sgM_lt (g := mo 3) (n := mo 0 8) (h := sp.1) (by omega)
      refine v_aload_n X dX10_command_89 90 rfl 3 rfl ?_
      refine v_dup X dX10_command_90 91 rfl rfl ?_
      refine v_getf X hM.C h_mo.1 inX10 0 rfl rfl 9 (by decide) kf_X10_169 (fun _ h => h) rfl dX10_command_91 94 rfl ?_
      show V p l e (rmL 4 0 0) s m args below meth cd Q 4 H3 lo3 0 0 94 [(3, .int (zI (i : Int))), (2, .int (zI (sgM (mo 3) (mo 0 8) sp.1))), (1, .int (zI (5 * si))), (0, .ref b)] [.int (zI sp.1), .ref b]
      refine v_iconst X dX10_command_94 95 rfl ?_
      refine v_iadd X dX10_command_95 96 rfl ?_
      refine v_putf X hM h_mo ftX10 0 rfl rfl 9 (by decide) kf_X10_169 (fun _ h => h) rfl rfl rfl (Nat.le_of_ble_eq_true rfl) (Or.inl (fsH (by omega) (by omega))) dX10_command_96 99 rfl (ws' := modelW E b (updC (updC mo 0 (updZ (updZ (updZ (mo 0) 9 (sp.1 + 1)) 10 sp.2) 15 (si + 1))) 4 (clB (mo 4) (5 * si) i))) rfl (fun H6 lo6 hzz hM hF h_mo => ?_)
      clear hzz
      refine v_aload_n X dX10_command_99 100 rfl 3 rfl ?_
      refine v_iload_n X dX10_command_100 101 rfl 1 rfl ?_
      refine V_S (st' := [.int (zI 99), .ref b]) (by rw [hf1]) ?_
      refine v_muV X hM (h_mo.1) (c_X10_word_99l l E b (updC (updC mo 0 (updZ (updZ (updZ (mo 0) 9 (sp.1 + 1)) 10 sp.2) 15 (si + 1))) 4 (clB (mo 4) (5 * si) i)) (sp.1 + 1, sp.2) hcr hn (by first | rfl | assumption) (by first | rfl | assumption) (show inS (mo 0 8) (sp.1 + 1, sp.2) from (by first | assumption | (dsimp only [inS]; omega))) (show sgM (mo 3) (mo 0 8) (sp.1 + 1, sp.2).1 = 108 from (by omega))) kvX10_word kiX10_word kl_X10_191 (q0 := 0) rfl rfl (As := [.int (zI 99)]) rfl rfl rfl dX10_command_101 104 rfl (k' := 0) (n' := 0) rfl rfl (fsI (fun q q1 q2 => (Or.inl (fsH (by omega) (by omega))))) h_mo (fun rv H7 lo7 hM hF hpo => ?_)
      obtain ⟨rfl, hw_0⟩ := hpo
      have h_mo : PR E b (modelW E b (updC (updC mo 0 (updZ (updZ (updZ (mo 0) 9 ((nd ((mo 3)) (mo 0 8) (nd ((mo 3)) (mo 0 8) (nd ((mo 3)) (mo 0 8) (nd ((mo 3)) (mo 0 8) (sp.1 + 1, sp.2) 108) 111) 115) 101).1)) 10 ((nd ((mo 3)) (mo 0 8) (nd ((mo 3)) (mo 0 8) (nd ((mo 3)) (mo 0 8) (nd ((mo 3)) (mo 0 8) (sp.1 + 1, sp.2) 108) 111) 115) 101).2)) 15 (si + 1))) 4 (clB (mo 4) (5 * si) i))) H7 := hw_0
      show V p l e (rmL 4 0 0) s m args below meth cd Q 4 H7 lo7 0 0 104 [(3, .int (zI (i : Int))), (2, .int (zI (sgM (mo 3) (mo 0 8) sp.1))), (1, .int (zI (5 * si))), (0, .ref b)] [.int (zI 108)]
      have hf_8 := ((nd_b _ _ _ _ (nd_b _ _ _ _ (nd_b _ _ _ _ (nd_b _ _ _ _ (by first | assumption | (dsimp only [inS]; omega)) (by omega)) (by omega)) (by omega)) (by omega)) : inS (mo 0 8) (nd ((mo 3)) (mo 0 8) (nd ((mo 3)) (mo 0 8) (nd ((mo 3)) (mo 0 8) (nd ((mo 3)) (mo 0 8) (sp.1 + 1, sp.2) 108) 111) 115) 101))
      refine v_istore_n X dX10_command_104 105 rfl rfl (by decide) (L' := [(3, .int (zI 108)), (2, .int (zI (sgM (mo 3) (mo 0 8) sp.1))), (1, .int (zI (5 * si))), (0, .ref b)]) rfl ?_
      refine v_aload_n X dX10_command_105 106 rfl 3 rfl ?_
      refine v_getf X hM.C h_mo.1 inX10 0 rfl rfl 14 (by decide) kf_X10_27 (fun _ h => h) rfl dX10_command_106 109 rfl ?_
      refine v_iload_n X dX10_command_109 110 rfl 2 rfl ?_
      refine v_iload_n X dX10_command_110 111 rfl 0 rfl ?_
      refine v_iast X hM h_mo 4 rfl (by omega) (by omega) (by omega) (Or.inl (fsH (by omega) (by omega))) dX10_command_111 112 rfl (ws' := modelW E b (updC (updC mo 0 (updZ (updZ (updZ (mo 0) 9 ((nd ((mo 3)) (mo 0 8) (nd ((mo 3)) (mo 0 8) (nd ((mo 3)) (mo 0 8) (nd ((mo 3)) (mo 0 8) (sp.1 + 1, sp.2) 108) 111) 115) 101).1)) 10 ((nd ((mo 3)) (mo 0 8) (nd ((mo 3)) (mo 0 8) (nd ((mo 3)) (mo 0 8) (nd ((mo 3)) (mo 0 8) (sp.1 + 1, sp.2) 108) 111) 115) 101).2)) 15 (si + 1))) 4 (updZ (clB (mo 4) (5 * si) i) (5 * si) 108))) rfl (fun H9 lo9 hzz hM hF h_mo => ?_)
      clear hzz
      refine v_aload_n X dX10_command_112 113 rfl 3 rfl ?_
      refine v_getf X hM.C h_mo.1 inX10 0 rfl rfl 14 (by decide) kf_X10_27 (fun _ h => h) rfl dX10_command_113 116 rfl ?_
      refine v_iload_n X dX10_command_116 117 rfl 2 rfl ?_
      refine v_iconst X dX10_command_117 118 rfl ?_
      refine v_iadd X dX10_command_118 119 rfl ?_
      refine v_aload_n X dX10_command_119 120 rfl 3 rfl ?_
      refine v_iload_n X dX10_command_120 121 rfl 0 rfl ?_
      refine v_bipush X dX10_command_121 123 rfl rfl ?_
      refine v_icmp_eq X (by omega) (by omega) dX10_command_123 126 132 rfl (by decide) (fun c_10 => ?_) (fun c_10 => ?_)
      · skip
        exfalso; omega
      · skip
        refine v_iload_n X dX10_command_126 127 rfl 0 rfl ?_
        refine v_bipush X dX10_command_127 129 rfl rfl ?_
        refine v_icmp_ne X (by omega) (by omega) dX10_command_129 132 136 rfl (by decide) (fun c_11 => ?_) (fun c_11 => ?_)
        · skip
          refine v_iconst X dX10_command_136 137 rfl ?_
          refine v_muV X hM (h_mo.1) (c_X10_behind_2 l E b (updC (updC mo 0 (updZ (updZ (updZ (mo 0) 9 ((nd ((mo 3)) (mo 0 8) (nd ((mo 3)) (mo 0 8) (nd ((mo 3)) (mo 0 8) (nd ((mo 3)) (mo 0 8) (sp.1 + 1, sp.2) 108) 111) 115) 101).1)) 10 ((nd ((mo 3)) (mo 0 8) (nd ((mo 3)) (mo 0 8) (nd ((mo 3)) (mo 0 8) (nd ((mo 3)) (mo 0 8) (sp.1 + 1, sp.2) 108) 111) 115) 101).2)) 15 (si + 1))) 4 (updZ (clB (mo 4) (5 * si) i) (5 * si) 108)) (nd (mo 3) (mo 0 8) (nd (mo 3) (mo 0 8) (nd (mo 3) (mo 0 8) (nd (mo 3) (mo 0 8) (sp.1 + 1, sp.2) 108) 111) 115) 101) hcr hn (by first | rfl | assumption) (by first | rfl | assumption) (show inS (mo 0 8) (nd (mo 3) (mo 0 8) (nd (mo 3) (mo 0 8) (nd (mo 3) (mo 0 8) (nd (mo 3) (mo 0 8) (sp.1 + 1, sp.2) 108) 111) 115) 101) from (by first | assumption | (dsimp only [inS]; omega)))) kvX10_behind kiX10_behind kl_X10_194 (q0 := 0) rfl rfl (As := [.int (zI 2)]) rfl rfl rfl dX10_command_137 140 rfl (k' := 0) (n' := 0) rfl rfl (fsI (fun q q1 q2 => (Or.inl (fsH (by omega) (by omega))))) h_mo (fun rv H12 lo12 hM hF hpo => ?_)
          obtain ⟨rfl, hw_0⟩ := hpo
          have h_mo : PR E b (modelW E b (updC (updC mo 0 (updZ (updZ (updZ (mo 0) 9 (((nm ((mo 3)) (mo 0 8) (nd ((mo 3)) (mo 0 8) (nd (mo 3) (mo 0 8) (nd (mo 3) (mo 0 8) (nd (mo 3) (mo 0 8) (nd (mo 3) (mo 0 8) (sp.1 + 1, sp.2) 108) 111) 115) 101) 32) 2).2).1)) 10 (((nm ((mo 3)) (mo 0 8) (nd ((mo 3)) (mo 0 8) (nd (mo 3) (mo 0 8) (nd (mo 3) (mo 0 8) (nd (mo 3) (mo 0 8) (nd (mo 3) (mo 0 8) (sp.1 + 1, sp.2) 108) 111) 115) 101) 32) 2).2).2)) 15 (si + 1))) 4 (updZ (clB (mo 4) (5 * si) i) (5 * si) 108))) H12 := hw_0
          show V p l e (rmL 4 0 0) s m args below meth cd Q 4 H12 lo12 0 0 140 [(3, .int (zI 108)), (2, .int (zI (sgM (mo 3) (mo 0 8) sp.1))), (1, .int (zI (5 * si))), (0, .ref b)] [.int (zI ((nm (mo 3) (mo 0 8) (nd (mo 3) (mo 0 8) (nd (mo 3) (mo 0 8) (nd (mo 3) (mo 0 8) (nd (mo 3) (mo 0 8) (nd (mo 3) (mo 0 8) (sp.1 + 1, sp.2) 108) 111) 115) 101) 32) 2).1)), .int (zI (5 * si + 1)), .ref (b + 4)]
          have hf_13 := nm_b ((mo 3)) (mo 0 8) (nd ((mo 3)) (mo 0 8) (nd (mo 3) (mo 0 8) (nd (mo 3) (mo 0 8) (nd (mo 3) (mo 0 8) (nd (mo 3) (mo 0 8) (sp.1 + 1, sp.2) 108) 111) 115) 101) 32) 2 (nd_b _ _ _ _ (by first | assumption | (dsimp only [inS]; omega)) (by omega))
          refine v_iast X hM h_mo 4 rfl (by omega) (by omega) (by omega) (Or.inl (fsH (by omega) (by omega))) dX10_command_140 141 rfl (ws' := modelW E b (updC (updC mo 0 (updZ (updZ (updZ (mo 0) 9 (((nm ((mo 3)) (mo 0 8) (nd ((mo 3)) (mo 0 8) (nd (mo 3) (mo 0 8) (nd (mo 3) (mo 0 8) (nd (mo 3) (mo 0 8) (nd (mo 3) (mo 0 8) (sp.1 + 1, sp.2) 108) 111) 115) 101) 32) 2).2).1)) 10 (((nm ((mo 3)) (mo 0 8) (nd ((mo 3)) (mo 0 8) (nd (mo 3) (mo 0 8) (nd (mo 3) (mo 0 8) (nd (mo 3) (mo 0 8) (nd (mo 3) (mo 0 8) (sp.1 + 1, sp.2) 108) 111) 115) 101) 32) 2).2).2)) 15 (si + 1))) 4 (updZ (updZ (clB (mo 4) (5 * si) i) (5 * si) 108) (5 * si + 1) ((nm (mo 3) (mo 0 8) (nd (mo 3) (mo 0 8) (nd (mo 3) (mo 0 8) (nd (mo 3) (mo 0 8) (nd (mo 3) (mo 0 8) (nd (mo 3) (mo 0 8) (sp.1 + 1, sp.2) 108) 111) 115) 101) 32) 2).1)))) rfl (fun H14 lo14 hzz hM hF h_mo => ?_)
          clear hzz
          refine v_iload_n X dX10_command_141 142 rfl 0 rfl ?_
          refine v_lookup X dX10_command_142 (by decide) (off := 127) (by decide) 269 (by decide) ?_
          subst hQ; exact m_vret X hr hlk hM dX10_command_269 rfl ⟨rfl, (PR.to h_mo (by rw [h5]))⟩
        · skip
          exfalso; omega
    · skip
      exfalso; omega
  · skip
    refine v_aload_n X dX10_command_29 30 rfl 3 rfl ?_
    refine v_getf X hM.C h_mo.1 inX10 0 rfl rfl 14 (by decide) kf_X10_27 (fun _ h => h) rfl dX10_command_30 33 rfl ?_
    refine v_iload_n X dX10_command_33 34 rfl 2 rfl ?_
    refine v_iload_n X dX10_command_34 35 rfl 0 rfl ?_
    refine v_iadd X dX10_command_35 36 rfl ?_
    refine v_iconst X dX10_command_36 37 rfl ?_
    refine v_iast X hM h_mo 4 rfl (by omega) (by omega) (by omega) (Or.inl (fsH (by omega) (by omega))) dX10_command_37 38 rfl (ws' := modelW E b (updC (updC mo 0 (updZ (updZ (updZ (mo 0) 9 sp.1) 10 sp.2) 15 (si + 1))) 4 (updZ (clB (mo 4) (5 * si) i) (5 * si + (i : Int)) 0))) rfl (fun H15 lo15 hzz hM hF h_mo => ?_)
    clear hzz
    refine v_iinc X dX10_command_38 41 rfl 0 rfl (by decide) (L' := [(3, .int (zI ((i : Int) + 1))), (2, .int (zI (sgM (mo 3) (mo 0 8) sp.1))), (1, .int (zI (5 * si))), (0, .ref b)]) rfl ?_
    refine v_goto X dX10_command_41 24 (by decide) ?_
    exact V_L (L' := [(3, .int (zI ((i + 1 : Nat) : Int))), (2, .int (zI (sgM (mo 3) (mo 0 8) sp.1))), (1, .int (zI (5 * si))), (0, .ref b)]) (LC (vz (by omega)) (LC rfl (LC rfl (LC rfl rfl)))) (ih_i (by omega) _ _ hM (PR.to h_mo (by rw [clB_s])))
set_option maxHeartbeats 4000000 in
set_option maxRecDepth 20000 in
theorem c_X10_command_0 (l : Launch) (E : Nat → Nat → Nat) (b : Nat) (mo : Nat → Int → Int) (sp : Int × Int) (si : Int) (hcr : ∀ j : Int, 0 ≤ j → j < mo 0 8 → 0 ≤ mo 3 j ∧ mo 3 j < 128) (hn : 0 ≤ mo 0 8 ∧ mo 0 8 ≤ 60) (e9 : mo 0 9 = sp.1) (e10 : mo 0 10 = sp.2) (bs : inS (mo 0 8) sp) (hse : sp.2 = -1) (hsi : mo 0 15 = si) (si0 : 0 ≤ si) (si1 : si < 61) (hf1 : ¬ (sgM (mo 3) (mo 0 8) sp.1 = 99 ∨ sgM (mo 3) (mo 0 8) sp.1 = 119 ∨ sgM (mo 3) (mo 0 8) sp.1 = 116 ∨ sgM (mo 3) (mo 0 8) sp.1 = 113 ∨ sgM (mo 3) (mo 0 8) sp.1 = 100 ∨ sgM (mo 3) (mo 0 8) sp.1 = 97)) : Mu l yX10_command cX10_command 4 none 4 0 0 E [(b, 5)] [.ref b] (fun H => PR E b (modelW E b mo) H) (fun rv H => rv = none ∧ PR E b (modelW E b (updC (updC mo 0 (updZ (updZ (updZ (mo 0) 9 sp.1) 10 sp.1) 15 (si + 1))) 4 (clB (mo 4) (5 * si) 5))) H) := by
  refine Mu.start (own := RX10) rfl (by decide +kernel) (Nat.le_of_ble_eq_true rfl) ?_
  intro p e s m below meth cd args Q hQ X hr hlk hnm hM hPr
  have h_mo := hPr
  have hbs := bs
  dsimp only [inS] at hbs
  replace h_mo : PR E b (modelW E b (updC mo 0 (updZ (updZ (mo 0) 9 sp.1) 10 sp.2))) s.heap := PR.to h_mo (by rw [upd_2 e9 e10])
  refine v_iconst X dX10_command_0 1 rfl ?_
  refine v_aload_n X dX10_command_1 2 rfl 0 rfl ?_
  refine v_getf X hM.C h_mo.1 inX10 0 rfl rfl 15 (by decide) kf_X10_188 (fun _ h => h) rfl dX10_command_2 5 rfl ?_
  show V p l e (rmL 4 0 0) s m args below meth cd Q 4 s.heap [] 0 0 5 [(0, .ref b)] [.int (zI (mo 0 15)), .int (zI 5)]
  refine v_imul X dX10_command_5 6 rfl ?_
  refine V_S (st' := [.int (zI (5 * si))]) (by rw [hsi]) ?_
  refine v_istore_n X dX10_command_6 7 rfl rfl (by decide) (L' := [(1, .int (zI (5 * si))), (0, .ref b)]) rfl ?_
  refine v_aload_n X dX10_command_7 8 rfl 1 rfl ?_
  refine v_dup X dX10_command_8 9 rfl rfl ?_
  refine v_getf X hM.C h_mo.1 inX10 0 rfl rfl 15 (by decide) kf_X10_188 (fun _ h => h) rfl dX10_command_9 12 rfl ?_
  show V p l e (rmL 4 0 0) s m args below meth cd Q 4 s.heap [] 0 0 12 [(1, .int (zI (5 * si))), (0, .ref b)] [.int (zI (mo 0 15)), .ref b]
  refine v_iconst X dX10_command_12 13 rfl ?_
  refine v_iadd X dX10_command_13 14 rfl ?_
  refine v_putf X hM h_mo ftX10 0 rfl rfl 15 (by decide) kf_X10_188 (fun _ h => h) rfl rfl rfl (Nat.le_of_ble_eq_true rfl) (Or.inl (fsH (by omega) (by omega))) dX10_command_14 17 rfl (ws' := modelW E b (updC mo 0 (updZ (updZ (updZ (mo 0) 9 sp.1) 10 sp.2) 15 (mo 0 15 + 1)))) rfl (fun H1 lo1 hzz hM hF h_mo => ?_)
  clear hzz
  rw [hsi] at h_mo
  refine v_aload_n X dX10_command_17 18 rfl 1 rfl ?_
  refine v_rdV X hM.C h_mo.1 (c_X10_sign l E b (updC mo 0 (updZ (updZ (updZ (mo 0) 9 sp.1) 10 sp.2) 15 (si + 1))) sp hcr hn (by first | rfl | assumption) bs) kvX10_sign kiX10_sign kl_X10_175 rfl rfl (As := []) rfl rfl rfl dX10_command_18 21 rfl ?_
  show V p l e (rmL 4 0 0) s m args below meth cd Q 4 H1 lo1 0 0 21 [(1, .int (zI (5 * si))), (0, .ref b)] [.int (zI (sgM (mo 3) (mo 0 8) sp.1))]
  have hf_2 := sgM_b ((mo 3)) (mo 0 8) sp.1 hcr (by first | omega | (dsimp only; omega))
  refine v_istore_n X dX10_command_21 22 rfl rfl (by decide) (L' := [(2, .int (zI (sgM (mo 3) (mo 0 8) sp.1))), (1, .int (zI (5 * si))), (0, .ref b)]) rfl ?_
  refine v_iconst X dX10_command_22 23 rfl ?_
  refine v_istore_n X dX10_command_23 24 rfl rfl (by decide) (L' := [(3, .int (zI 0)), (2, .int (zI (sgM (mo 3) (mo 0 8) sp.1))), (1, .int (zI (5 * si))), (0, .ref b)]) rfl ?_
  refine V_L (L' := [(3, .int (zI 0)), (2, .int (zI (sgM (mo 3) (mo 0 8) sp.1))), (1, .int (zI (5 * si))), (0, .ref b)]) (LC (vz (by rfl)) (LC rfl (LC rfl (LC rfl rfl)))) ?_
  refine up_loop 5 (P := fun (i : Nat) => ∀ (H : Heap) (lo : List Loc), MS E [(b, 5)] s H lo → PR E b (modelW E b (updC (updC mo 0 (updZ (updZ (updZ (mo 0) 9 sp.1) 10 sp.2) 15 (si + 1))) 4 (clB (mo 4) (5 * si) i))) H → V p l e (rmL 4 0 0) s m args below meth cd Q 4 H lo 0 0 24 [(3, .int (zI (i : Int))), (2, .int (zI (sgM (mo 3) (mo 0 8) sp.1))), (1, .int (zI (5 * si))), (0, .ref b)] []) (fun i hi_i ih_i H3 lo3 hM h_mo => ?_) _ _ hM (PR.to h_mo (by rw [clB_0]; rfl))
  refine v_iload_n X dX10_command_24 25 rfl 0 rfl ?_
  refine v_iconst X dX10_command_25 26 rfl ?_
  refine v_icmp_ge X (by omega) (by omega) dX10_command_26 29 44 rfl (by decide) (fun c_4 => ?_) (fun c_4 => ?_)
  · skip
    have h5 : i = 5 := by omega
    refine v_iload_n X dX10_command_44 45 rfl 1 rfl ?_
    refine v_bipush X dX10_command_45 47 rfl rfl ?_
    refine v_icmp_eq X (by omega) (by omega) dX10_command_47 50 89 rfl (by decide) (fun c_5 => ?_) (fun c_5 => ?_)
    · skip
      exfalso; omega
    · skip
      refine v_iload_n X dX10_command_50 51 rfl 1 rfl ?_
      refine v_bipush X dX10_command_51 53 rfl rfl ?_
      refine v_icmp_eq X (by omega) (by omega) dX10_command_53 56 89 rfl (by decide) (fun c_6 => ?_) (fun c_6 => ?_)
      · skip
        exfalso; omega
      · skip
        refine v_iload_n X dX10_command_56 57 rfl 1 rfl ?_
        refine v_bipush X dX10_command_57 59 rfl rfl ?_
        refine v_icmp_eq X (by omega) (by omega) dX10_command_59 62 89 rfl (by decide) (fun c_7 => ?_) (fun c_7 => ?_)
        · skip
          exfalso; omega
        · skip
          refine v_iload_n X dX10_command_62 63 rfl 1 rfl ?_
          refine v_bipush X dX10_command_63 65 rfl rfl ?_
          refine v_icmp_eq X (by omega) (by omega) dX10_command_65 68 89 rfl (by decide) (fun c_8 => ?_) (fun c_8 => ?_)
          · skip
            exfalso; omega
          · skip
            refine v_iload_n X dX10_command_68 69 rfl 1 rfl ?_
            refine v_bipush X dX10_command_69 71 rfl rfl ?_
            refine v_icmp_eq X (by omega) (by omega) dX10_command_71 74 89 rfl (by decide) (fun c_9 => ?_) (fun c_9 => ?_)
            · skip
              exfalso; omega
            · skip
              refine v_iload_n X dX10_command_74 75 rfl 1 rfl ?_
              refine v_bipush X dX10_command_75 77 rfl rfl ?_
              refine v_icmp_eq X (by omega) (by omega) dX10_command_77 80 89 rfl (by decide) (fun c_10 => ?_) (fun c_10 => ?_)
              · skip
                exfalso; omega
              · skip
                refine v_aload_n X dX10_command_80 81 rfl 3 rfl ?_
                refine v_aload_n X dX10_command_81 82 rfl 3 rfl ?_
                refine v_getf X hM.C h_mo.1 inX10 0 rfl rfl 9 (by decide) kf_X10_169 (fun _ h => h) rfl dX10_command_82 85 rfl ?_
                show V p l e (rmL 4 0 0) s m args below meth cd Q 4 H3 lo3 0 0 85 [(3, .int (zI (i : Int))), (2, .int (zI (sgM (mo 3) (mo 0 8) sp.1))), (1, .int (zI (5 * si))), (0, .ref b)] [.int (zI sp.1), .ref b]
                refine v_putf X hM h_mo ftX10 0 rfl rfl 10 (by decide) kf_X10_172 (fun _ h => h) rfl rfl rfl (Nat.le_of_ble_eq_true rfl) (Or.inl (fsH (by omega) (by omega))) dX10_command_85 88 rfl (ws' := modelW E b (updC (updC mo 0 (updZ (updZ (updZ (mo 0) 9 sp.1) 10 sp.1) 15 (si + 1))) 4 (clB (mo 4) (5 * si) i))) rfl (fun H11 lo11 hzz hM hF h_mo => ?_)
                clear hzz
                subst hQ; exact m_vret X hr hlk hM dX10_command_88 rfl ⟨rfl, (PR.to h_mo (by rw [h5]))⟩
  · skip
    refine v_aload_n X dX10_command_29 30 rfl 3 rfl ?_
    refine v_getf X hM.C h_mo.1 inX10 0 rfl rfl 14 (by decide) kf_X10_27 (fun _ h => h) rfl dX10_command_30 33 rfl ?_
    refine v_iload_n X dX10_command_33 34 rfl 2 rfl ?_
    refine v_iload_n X dX10_command_34 35 rfl 0 rfl ?_
    refine v_iadd X dX10_command_35 36 rfl ?_
    refine v_iconst X dX10_command_36 37 rfl ?_
    refine v_iast X hM h_mo 4 rfl (by omega) (by omega) (by omega) (Or.inl (fsH (by omega) (by omega))) dX10_command_37 38 rfl (ws' := modelW E b (updC (updC mo 0 (updZ (updZ (updZ (mo 0) 9 sp.1) 10 sp.2) 15 (si + 1))) 4 (updZ (clB (mo 4) (5 * si) i) (5 * si + (i : Int)) 0))) rfl (fun H12 lo12 hzz hM hF h_mo => ?_)
    clear hzz
    refine v_iinc X dX10_command_38 41 rfl 0 rfl (by decide) (L' := [(3, .int (zI ((i : Int) + 1))), (2, .int (zI (sgM (mo 3) (mo 0 8) sp.1))), (1, .int (zI (5 * si))), (0, .ref b)]) rfl ?_
    refine v_goto X dX10_command_41 24 (by decide) ?_
    exact V_L (L' := [(3, .int (zI ((i + 1 : Nat) : Int))), (2, .int (zI (sgM (mo 3) (mo 0 8) sp.1))), (1, .int (zI (5 * si))), (0, .ref b)]) (LC (vz (by omega)) (LC rfl (LC rfl (LC rfl rfl)))) (ih_i (by omega) _ _ hM (PR.to h_mo (by rw [clB_s])))
