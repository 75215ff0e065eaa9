theorem bu_reg {co co1 : Nat → Int → Int} {n r : Int} (h : BaI co n) (r0 : 0 ≤ r) (r1 : r < 10) (hw : co 0 1 < 8) (hc : (¬ flC co 1 r 0 0 = 0 ∧ co1 = co) ∨ (flC co 1 r 0 0 = 0 ∧ co1 = opC co 1 r 0 0 0)) : BaI co1 (n + 1) ∧ co1 0 0 = co 0 0 ∧ co1 0 1 = co 0 1 + 1 := by
  have e : flC co 1 r 0 0 = 0 := by
    show fWi co r = 0
    unfold fWi
    rw [if_pos (by omega), if_neg (by omega)]
  rcases hc with ⟨q, -⟩ | ⟨-, rfl⟩
  · exact absurd e q
  · obtain ⟨h1, h2, h3⟩ := ba_op (f := 0) h (kd := 1) (by decide) e
    rw [if_neg (by decide)] at h2
    rw [if_pos rfl] at h3
    exact ⟨h1, by omega, h3⟩
theorem bu_chg {co co1 : Nat → Int → Int} {n d o : Int} (h : BaI co n) (d0 : 0 ≤ d) (d1 : d < 6) (o0 : 0 ≤ o) (o1 : o < 5) (hc : (¬ flC co 0 d o 0 = 0 ∧ co1 = co) ∨ (flC co 0 d o 0 = 0 ∧ co1 = opC co 0 d o 0 0)) : BaI co1 (n + 1) ∧ co1 0 1 = co 0 1 ∧ (co1 0 0 = co 0 0 ∨ co1 0 0 = co 0 0 + 1) ∧ (co 0 0 = 0 → co1 0 0 = 1) := by
  have hz : co 0 0 = 0 → flC co 0 d o 0 = 0 := by
    intro z
    show fCh co d o = 0
    unfold fCh
    rw [if_pos ⟨⟨d0, d1⟩, o0, o1⟩, if_neg]
    rw [z]
    intro w
    rcases w with w | w
    · rw [firstZ_none (fun j a b => by omega)] at w
      omega
    · omega
  rcases hc with ⟨q, rfl⟩ | ⟨e, rfl⟩
  · exact ⟨h.wide (by omega), rfl, Or.inl rfl, fun z => absurd (hz z) q⟩
  · obtain ⟨h1, h2, h3⟩ := ba_op (f := 0) h (kd := 0) (by decide) e
    rw [if_pos rfl] at h2
    rw [if_neg (by decide)] at h3
    exact ⟨h1, by omega, Or.inr h2, fun z => by omega⟩
set_option maxHeartbeats 4000000 in
set_option maxRecDepth 20000 in
theorem c_L_build (l : Launch) (hl : l.stackTraces = false) (E : Nat → Nat → Nat) (x : Nat) (co : Nat → Int → Int) (v : Nat) (T : List Int) (hB0 : BaI co 0) (h00 : co 0 0 = 0) (h01 : co 0 1 = 0) : Mu l yL_build cL_build 4 none 13 28 168 E [(x + 1, 28), (x + 85, 2), (x + 87, 224), (x + 311, 3)] [.ref x, .ref (E 107 0)] (fun H => PR E x [(x, .inr (11, [.ref (x + 1), .ref (x + 29), .ref (x + 57), .ref (x + 85), .ref (x + 311), .ref (x + 314), .ref (x + 319), .ref (x + 332), .int (zI 0), .int (zI (-1)), .int (zI (-1)), .int (zI 0)]))] H ∧ PR E (x + 1) (courtW E (x + 1) co) H ∧ HW E x H ∧ RW E x v T H) (fun rv H => ∃ co1 : Nat → Int → Int, rv = none ∧ AcI co1 28 ∧ PR E (x + 1) (courtW E (x + 1) co1) H ∧ HW E x H ∧ RW E x v T H) := by
  refine Mu.start (own := RL) rfl (by decide +kernel) (Nat.le_of_ble_eq_true rfl) ?_
  intro p e s m below meth cd args Q hQ X hr hlk hnm hM hPr
  obtain ⟨h_cm, h_co, h_hw, h_w⟩ := hPr
  have hvl := h_w.lt
  refine v_iconst X dL_build_0 1 rfl ?_
  refine v_istore_n X dL_build_1 2 rfl rfl (by decide) (L' := [(3, .int (zI 0)), (0, .ref x), (1, .ref (E 107 0))]) rfl ?_
  refine V_L (L' := [(3, .int (zI 0)), (0, .ref x), (1, .ref (E 107 0))]) (LC rfl (LC rfl (LC rfl rfl))) ?_
  refine up_loop 4 (P := fun (i : Nat) => ∀ (kq_i2 nq_i2 : Nat), kq_i2 ≤ 0 + 1 * i → nq_i2 ≤ 0 + 6 * i → ∀ (cb : Nat → Int → Int), (BaI cb (i : Int)) → (cb 0 0 = 0 ∧ cb 0 1 = (i : Int)) → ∀ (H : Heap) (lo : List Loc), MS E [(x + 1, 28), (x + 85, 2), (x + 87, 224), (x + 311, 3)] s H lo → PR E x [(x, .inr (11, [.ref (x + 1), .ref (x + 29), .ref (x + 57), .ref (x + 85), .ref (x + 311), .ref (x + 314), .ref (x + 319), .ref (x + 332), .int (zI 0), .int (zI (-1)), .int (zI (-1)), .int (zI 0)]))] H → PR E (x + 1) (courtW E (x + 1) cb) H → HW E x H → RW E x v T H → V p l e (rmL 13 28 168) s m args below meth cd Q 4 H lo kq_i2 nq_i2 2 [(3, .int (zI (i : Int))), (0, .ref x), (1, .ref (E 107 0))] []) (fun i hi_i ih_i kq_i2 nq_i2 hkq_i hnq_i cb hB h1 H1 lo1 hM h_cm h_co h_hw h_w => ?_) _ _ (by omega) (by omega) co hB0 (by omega) _ _ hM h_cm h_co h_hw h_w
  have hO := hB.1.inv.ok
  refine v_iload_n X dL_build_2 3 rfl 0 rfl ?_
  refine v_iconst X dL_build_3 4 rfl ?_
  refine v_icmp_ge X (by omega) (by omega) dL_build_4 7 25 rfl (by decide) (fun c_2 => ?_) (fun c_2 => ?_)
  · skip
    refine v_iconst X dL_build_25 26 rfl ?_
    refine v_istore_n X dL_build_26 27 rfl rfl (by decide) (L' := [(3, .int (zI 0)), (0, .ref x), (1, .ref (E 107 0))]) rfl ?_
    refine V_L (L' := [(3, .int (zI 0)), (0, .ref x), (1, .ref (E 107 0))]) (LC rfl (LC rfl (LC rfl rfl))) ?_
    refine up_loop 4 (P := fun (j : Nat) => ∀ (kq_j27 nq_j27 : Nat), kq_j27 ≤ kq_i2 + 1 * j → nq_j27 ≤ nq_i2 + 6 * j → ∀ (cb : Nat → Int → Int), (BaI cb (4 + (j : Int))) → (cb 0 1 = 4 ∧ (0 ≤ cb 0 0 ∧ cb 0 0 ≤ (j : Int)) ∧ (0 < (j : Int) → 1 ≤ cb 0 0)) → ∀ (H : Heap) (lo : List Loc), MS E [(x + 1, 28), (x + 85, 2), (x + 87, 224), (x + 311, 3)] s H lo → PR E x [(x, .inr (11, [.ref (x + 1), .ref (x + 29), .ref (x + 57), .ref (x + 85), .ref (x + 311), .ref (x + 314), .ref (x + 319), .ref (x + 332), .int (zI 0), .int (zI (-1)), .int (zI (-1)), .int (zI 0)]))] H → PR E (x + 1) (courtW E (x + 1) cb) H → HW E x H → RW E x v T H → V p l e (rmL 13 28 168) s m args below meth cd Q 4 H lo kq_j27 nq_j27 27 [(3, .int (zI (j : Int))), (0, .ref x), (1, .ref (E 107 0))] []) (fun j hi_j ih_j kq_j27 nq_j27 hkq_j hnq_j cb hB h1 H3 lo3 hM h_cm h_co h_hw h_w => ?_) _ _ (by omega) (by omega) cb (hB.wide (by omega)) (by omega) _ _ hM h_cm h_co h_hw h_w
    have hO := hB.1.inv.ok
    refine v_iload_n X dL_build_27 28 rfl 0 rfl ?_
    refine v_iconst X dL_build_28 29 rfl ?_
    refine v_icmp_ge X (by omega) (by omega) dL_build_29 32 61 rfl (by decide) (fun c_4 => ?_) (fun c_4 => ?_)
    · skip
      refine v_iconst X dL_build_61 62 rfl ?_
      refine v_istore_n X dL_build_62 63 rfl rfl (by decide) (L' := [(3, .int (zI 0)), (0, .ref x), (1, .ref (E 107 0))]) rfl ?_
      refine V_L (L' := [(3, .int (zI 0)), (0, .ref x), (1, .ref (E 107 0))]) (LC rfl (LC rfl (LC rfl rfl))) ?_
      refine up_loop 20 (P := fun (k : Nat) => ∀ (kq_k63 nq_k63 : Nat), kq_k63 ≤ kq_j27 + 1 * k → nq_k63 ≤ nq_j27 + 6 * k → ∀ (cb : Nat → Int → Int), (AcI cb (8 + (k : Int))) → ∀ (H : Heap) (lo : List Loc), MS E [(x + 1, 28), (x + 85, 2), (x + 87, 224), (x + 311, 3)] s H lo → PR E x [(x, .inr (11, [.ref (x + 1), .ref (x + 29), .ref (x + 57), .ref (x + 85), .ref (x + 311), .ref (x + 314), .ref (x + 319), .ref (x + 332), .int (zI 0), .int (zI (-1)), .int (zI (-1)), .int (zI 0)]))] H → PR E (x + 1) (courtW E (x + 1) cb) H → HW E x H → RW E x v T H → V p l e (rmL 13 28 168) s m args below meth cd Q 4 H lo kq_k63 nq_k63 63 [(3, .int (zI (k : Int))), (0, .ref x), (1, .ref (E 107 0))] []) (fun k hi_k ih_k kq_k63 nq_k63 hkq_k hnq_k cb hA H5 lo5 hM h_cm h_co h_hw h_w => ?_) _ _ (by omega) (by omega) cb ⟨hB.wide (by omega), by omega, by omega⟩ _ _ hM h_cm h_co h_hw h_w
      refine v_iload_n X dL_build_63 64 rfl 0 rfl ?_
      refine v_bipush X dL_build_64 66 rfl rfl ?_
      refine v_icmp_ge X (by omega) (by omega) dL_build_66 69 86 rfl (by decide) (fun c_6 => ?_) (fun c_6 => ?_)
      · skip
        refine v_widen (k' := 28) (n' := 168) (by omega) (by omega) ?_
        subst hQ; exact m_vret X hr hlk hM dL_build_86 rfl ⟨cb, rfl, (by exact hA.wide (by omega)), h_co, h_hw, h_w⟩
      · skip
        refine v_aload_n X dL_build_69 70 rfl 1 rfl ?_
        refine v_aload_n X dL_build_70 71 rfl 2 rfl ?_
        refine v_bipush X dL_build_71 73 rfl rfl ?_
        refine v_iconst X dL_build_73 74 rfl ?_
        refine v_iload_n X dL_build_74 75 rfl 0 rfl ?_
        refine v_imul X dL_build_75 76 rfl ?_
        refine v_iadd X dL_build_76 77 rfl ?_
        refine v_muS X hM (c_L_acts l hl E x cb (8 + (k : Int)) (15 + 4 * (k : Int)) v T hA (by omega) (by omega)) kvL_acts ksL_acts kl_L_84 (As := [.ref x, .ref (E 107 0), .int (zI (15 + 4 * (k : Int)))]) rfl rfl (rm_L rfl (by omega) (by omega)) dL_build_77 80 rfl (k' := kq_k63 + 1) (n' := nq_k63 + 6) rfl rfl (by intro q hq; simp only [Fr, Fs, or_false, false_or] at hq ⊢; omega) ⟨h_cm, h_co, h_hw, h_w⟩ (fun rv H7 lo7 hM hF hpo => ?_)
        obtain ⟨co1_8, rfl, hp_f_9, hw_0, hw_1, hw_2⟩ := hpo
        have h_co : PR E (x + 1) (courtW E (x + 1) co1_8) H7 := hw_0
        clear hw_0
        have h_hw : HW E x H7 := hw_1
        clear hw_1
        have h_w : RW E x v T H7 := hw_2
        clear hw_2
        replace h_cm := h_cm.kept hF 1 rfl (by intro q q1 q2 q3; simp only [Fs, or_false] at q3; omega)
        show V p l e (rmL 13 28 168) s m args below meth cd Q 4 H7 lo7 (kq_k63 + 1) (nq_k63 + 6) 80 [(3, .int (zI (k : Int))), (0, .ref x), (1, .ref (E 107 0))] []
        refine v_iinc X dL_build_80 83 rfl 0 rfl (by decide) (L' := [(3, .int (zI ((k : Int) + 1))), (0, .ref x), (1, .ref (E 107 0))]) rfl ?_
        refine v_goto X dL_build_83 63 (by decide) ?_
        exact V_L (L' := [(3, .int (zI ((k + 1 : Nat) : Int))), (0, .ref x), (1, .ref (E 107 0))]) (LC (vz (by omega)) (LC rfl (LC rfl rfl))) (ih_k (by omega) _ _ (by omega) (by omega) co1_8 (hp_f_9.wide (by omega)) _ _ hM h_cm h_co h_hw h_w)
    · skip
      refine v_aload_n X dL_build_32 33 rfl 1 rfl ?_
      refine v_aload_n X dL_build_33 34 rfl 2 rfl ?_
      refine v_iconst X dL_build_34 35 rfl ?_
      refine v_iload_n X dL_build_35 36 rfl 0 rfl ?_
      refine v_iadd X dL_build_36 37 rfl ?_
      refine v_bipush X dL_build_37 39 rfl rfl ?_
      refine v_muS X hM (c_L_some l E (5 + (j : Int)) 6 (by omega) (by omega) (by omega) (by omega)) kvL_some ksL_some kl_L_74 (As := [.ref (E 107 0), .int (zI (5 + (j : Int))), .int (zI 6)]) rfl rfl (rm_L rfl (by omega) (by omega)) dL_build_39 42 rfl (k' := kq_j27 + 0) (n' := nq_j27 + 0) rfl rfl (fun q hq => hq.elim) ⟨⟩ (fun rv H10 lo10 hM hF hpo => ?_)
      obtain ⟨r_11, rfl, hp_f_12⟩ := hpo
      replace h_cm := h_cm.kept hF 1 rfl (fun q _ _ h => h.elim)
      replace h_co := h_co.kept hF 28 rfl (fun q _ _ h => h.elim)
      replace h_hw := h_hw.kept hF (fun q _ _ h => h.elim)
      replace h_w := h_w.kept hF (fun q _ h => h.elim)
      show V p l e (rmL 13 28 168) s m args below meth cd Q 4 H10 lo10 kq_j27 nq_j27 42 [(3, .int (zI (j : Int))), (0, .ref x), (1, .ref (E 107 0))] [.int (zI r_11), .ref x]
      refine v_aload_n X dL_build_42 43 rfl 2 rfl ?_
      refine v_bipush X dL_build_43 45 rfl rfl ?_
      refine v_iload_n X dL_build_45 46 rfl 0 rfl ?_
      refine v_iadd X dL_build_46 47 rfl ?_
      refine v_iconst X dL_build_47 48 rfl ?_
      refine v_muS X hM (c_L_some l E (10 + (j : Int)) 5 (by omega) (by omega) (by omega) (by omega)) kvL_some ksL_some kl_L_74 (As := [.ref (E 107 0), .int (zI (10 + (j : Int))), .int (zI 5)]) rfl rfl (rm_L rfl (by omega) (by omega)) dL_build_48 51 rfl (k' := kq_j27 + 0) (n' := nq_j27 + 0) rfl rfl (fun q hq => hq.elim) ⟨⟩ (fun rv H13 lo13 hM hF hpo => ?_)
      obtain ⟨r_14, rfl, hp_f_15⟩ := hpo
      replace h_cm := h_cm.kept hF 1 rfl (fun q _ _ h => h.elim)
      replace h_co := h_co.kept hF 28 rfl (fun q _ _ h => h.elim)
      replace h_hw := h_hw.kept hF (fun q _ _ h => h.elim)
      replace h_w := h_w.kept hF (fun q _ h => h.elim)
      show V p l e (rmL 13 28 168) s m args below meth cd Q 4 H13 lo13 kq_j27 nq_j27 51 [(3, .int (zI (j : Int))), (0, .ref x), (1, .ref (E 107 0))] [.int (zI r_14), .int (zI r_11), .ref x]
      refine v_mwS X hM (p_L_charge l hl E x cb r_11 r_14 hO (by omega) (by omega)) kwL_charge ksL_charge kl_L_81 (As := [.ref x, .int (zI r_11), .int (zI r_14)]) rfl rfl (rm_LW rfl (by omega) (by omega)) dL_build_51 54 rfl (k' := kq_j27 + 1) (n' := nq_j27 + 6) rfl rfl (by intro q hq; simp only [Fr, Fs, or_false, false_or] at hq ⊢; omega) ⟨h_cm, h_co, h_hw⟩ (fun rv H16 lo16 hM hF hpo => ?_)
      obtain ⟨r_17, co1_18, rfl, hp_f_19, hw_0, hw_1⟩ := hpo
      have h_co : PR E (x + 1) (courtW E (x + 1) co1_18) H16 := hw_0
      clear hw_0
      have h_hw : HW E x H16 := hw_1
      clear hw_1
      replace h_cm := h_cm.kept hF 1 rfl (by intro q q1 q2 q3; simp only [Fs, or_false] at q3; omega)
      replace h_w := h_w.kept hF (by intro q q1 q3; simp only [Fs, or_false] at q3; omega)
      show V p l e (rmL 13 28 168) s m args below meth cd Q 4 H16 lo16 (kq_j27 + 1) (nq_j27 + 6) 54 [(3, .int (zI (j : Int))), (0, .ref x), (1, .ref (E 107 0))] [.int (zI r_17)]
      refine v_istore_n X dL_build_54 55 rfl rfl (by decide) (L' := [(2, .int (zI r_17)), (3, .int (zI (j : Int))), (0, .ref x), (1, .ref (E 107 0))]) rfl ?_
      refine v_iinc X dL_build_55 58 rfl 1 rfl (by decide) (L' := [(3, .int (zI ((j : Int) + 1))), (2, .int (zI r_17)), (0, .ref x), (1, .ref (E 107 0))]) rfl ?_
      refine v_goto X dL_build_58 27 (by decide) ?_
      have hbr := bu_chg hB (by omega) (by omega) (by omega) (by omega) hp_f_19
      refine v_locals [0, 2, 3] (L' := [(3, .int (zI ((j : Int) + 1))), (0, .ref x), (1, .ref (E 107 0))]) rfl ?_
      exact V_L (L' := [(3, .int (zI ((j + 1 : Nat) : Int))), (0, .ref x), (1, .ref (E 107 0))]) (LC (vz (by omega)) (LC rfl (LC rfl rfl))) (ih_j (by omega) _ _ (by omega) (by omega) co1_18 (hbr.1.wide (by omega)) (by omega) _ _ hM h_cm h_co h_hw h_w)
  · skip
    refine v_aload_n X dL_build_7 8 rfl 1 rfl ?_
    refine v_aload_n X dL_build_8 9 rfl 2 rfl ?_
    refine v_iload_n X dL_build_9 10 rfl 0 rfl ?_
    refine v_bipush X dL_build_10 12 rfl rfl ?_
    refine v_muS X hM (c_L_some l E (i : Int) 10 (by omega) (by omega) (by omega) (by omega)) kvL_some ksL_some kl_L_74 (As := [.ref (E 107 0), .int (zI (i : Int)), .int (zI 10)]) rfl rfl (rm_L rfl (by omega) (by omega)) dL_build_12 15 rfl (k' := kq_i2 + 0) (n' := nq_i2 + 0) rfl rfl (fun q hq => hq.elim) ⟨⟩ (fun rv H20 lo20 hM hF hpo => ?_)
    obtain ⟨r_21, rfl, hp_f_22⟩ := hpo
    replace h_cm := h_cm.kept hF 1 rfl (fun q _ _ h => h.elim)
    replace h_co := h_co.kept hF 28 rfl (fun q _ _ h => h.elim)
    replace h_hw := h_hw.kept hF (fun q _ _ h => h.elim)
    replace h_w := h_w.kept hF (fun q _ h => h.elim)
    show V p l e (rmL 13 28 168) s m args below meth cd Q 4 H20 lo20 kq_i2 nq_i2 15 [(3, .int (zI (i : Int))), (0, .ref x), (1, .ref (E 107 0))] [.int (zI r_21), .ref x]
    refine v_mwS X hM (p_L_addWitness l hl E x cb r_21 hO (by omega)) kwL_addWitness ksL_addWitness kl_L_78 (As := [.ref x, .int (zI r_21)]) rfl rfl (rm_LW rfl (by omega) (by omega)) dL_build_15 18 rfl (k' := kq_i2 + 1) (n' := nq_i2 + 6) rfl rfl (by intro q hq; simp only [Fr, Fs, or_false, false_or] at hq ⊢; omega) ⟨h_cm, h_co, h_hw⟩ (fun rv H23 lo23 hM hF hpo => ?_)
    obtain ⟨r_24, co1_25, rfl, hp_f_26, hw_0, hw_1⟩ := hpo
    have h_co : PR E (x + 1) (courtW E (x + 1) co1_25) H23 := hw_0
    clear hw_0
    have h_hw : HW E x H23 := hw_1
    clear hw_1
    replace h_cm := h_cm.kept hF 1 rfl (by intro q q1 q2 q3; simp only [Fs, or_false] at q3; omega)
    replace h_w := h_w.kept hF (by intro q q1 q3; simp only [Fs, or_false] at q3; omega)
    show V p l e (rmL 13 28 168) s m args below meth cd Q 4 H23 lo23 (kq_i2 + 1) (nq_i2 + 6) 18 [(3, .int (zI (i : Int))), (0, .ref x), (1, .ref (E 107 0))] [.int (zI r_24)]
    refine v_istore_n X dL_build_18 19 rfl rfl (by decide) (L' := [(2, .int (zI r_24)), (3, .int (zI (i : Int))), (0, .ref x), (1, .ref (E 107 0))]) rfl ?_
    refine v_iinc X dL_build_19 22 rfl 1 rfl (by decide) (L' := [(3, .int (zI ((i : Int) + 1))), (2, .int (zI r_24)), (0, .ref x), (1, .ref (E 107 0))]) rfl ?_
    refine v_goto X dL_build_22 2 (by decide) ?_
    have hbr := bu_reg hB (by omega) (by omega) (by omega) hp_f_26
    refine v_locals [0, 2, 3] (L' := [(3, .int (zI ((i : Int) + 1))), (0, .ref x), (1, .ref (E 107 0))]) rfl ?_
    exact V_L (L' := [(3, .int (zI ((i + 1 : Nat) : Int))), (0, .ref x), (1, .ref (E 107 0))]) (LC (vz (by omega)) (LC rfl (LC rfl rfl))) (ih_i (by omega) _ _ (by omega) (by omega) co1_25 hbr.1 (by omega) _ _ hM h_cm h_co h_hw h_w)
