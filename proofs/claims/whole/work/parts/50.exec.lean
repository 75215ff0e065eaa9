/-! a program is carried out -/
def exF (pr : Nat → Int → Int) : Nat → Int → (Nat → Int → Int) → Nat × Int × (Nat → Int → Int)
  | 0, i, co => (0, i, co)
  | m + 1, i, co => if flC co (pr 1 i) (pr 2 i) (pr 3 i) (pr 5 i) = 0 then exF pr m (i + 1) (opC co (pr 1 i) (pr 2 i) (pr 3 i) (bz (¬ pr 4 i = 0)) (pr 5 i)) else (flC co (pr 1 i) (pr 2 i) (pr 3 i) (pr 5 i), i, co)
theorem exF_1 {pr : Nat → Int → Int} {m : Nat} {i f : Int} {co : Nat → Int → Int} (h : flC co (pr 1 i) (pr 2 i) (pr 3 i) (pr 5 i) = 0) (hf : bz (¬ pr 4 i = 0) = f) : exF pr (m + 1) i co = exF pr m (i + 1) (opC co (pr 1 i) (pr 2 i) (pr 3 i) f (pr 5 i)) := by
  rw [exF, if_pos h, hf]
theorem exF_2 {pr : Nat → Int → Int} {m : Nat} {i : Int} {co : Nat → Int → Int} (h : ¬ flC co (pr 1 i) (pr 2 i) (pr 3 i) (pr 5 i) = 0) : exF pr (m + 1) i co = (flC co (pr 1 i) (pr 2 i) (pr 3 i) (pr 5 i), i, co) := by
  rw [exF, if_neg h]
set_option maxHeartbeats 4000000 in
set_option maxRecDepth 20000 in
theorem c_X9_executeProgram_1 (l : Launch) (E : Nat → Nat → Nat) (x : Nat) (co : Nat → Int → Int) (hs : Int) (er : Int) (fa : Int) (ss : Int) (bf : Nat → Int → Int) (hc : Nat → Nat → Int → Int) (nx : Int) (sz : Int) (pos : Int) (siz : Int) (pr : Nat → Int → Int) (Pk : (Nat → Int → Int) → Prop) (hO : OkC co) (hPO : ∀ c : Nat → Int → Int, Pk c → OkC c) (hPs : ∀ (c : Nat → Int → Int) (kd a y f z : Int), Pk c → (0 ≤ kd ∧ kd ≤ 6) → (0 ≤ f ∧ f ≤ 1) → flC c kd a y z = 0 → Pk (opC c kd a y f z)) (hP0 : Pk co) (hpr1 : ∀ j : Int, 0 ≤ pr 1 j ∧ pr 1 j ≤ 6) (hpr : ∀ (r : Nat) (j : Int), 0 ≤ pr r j ∧ pr r j ≤ 99) (n0 : 0 ≤ nx) (n1 : nx < 8) (s0 : 0 ≤ sz) (s1 : sz ≤ 8) (si0 : 0 ≤ siz) (si1 : siz ≤ 8) (hx : (exF pr siz.toNat 0 co).1 = 0) (hd_cm_co : x + 1 ≤ x + 1 ∨ x + 1 + 28 ≤ x) (hd_cm_bf : x + 1 ≤ x + 29 ∨ x + 29 + 28 ≤ x) (hd_cm_hi : x + 1 ≤ x + 85 ∨ x + 85 + 2 ≤ x) (hd_cm_hf : x + 1 ≤ x + 87 ∨ x + 87 + 224 ≤ x) (hd_co_bf : x + 1 + 28 ≤ x + 29 ∨ x + 29 + 28 ≤ x + 1) (hd_co_hi : x + 1 + 28 ≤ x + 85 ∨ x + 85 + 2 ≤ x + 1) (hd_co_hf : x + 1 + 28 ≤ x + 87 ∨ x + 87 + 224 ≤ x + 1) (hd_co_pg : x + 1 + 28 ≤ x + 319 ∨ x + 319 + 1 ≤ x + 1) (hd_co_pr : x + 1 + 28 ≤ x + 322 ∨ x + 322 + 10 ≤ x + 1) (hd_bf_hi : x + 29 + 28 ≤ x + 85 ∨ x + 85 + 2 ≤ x + 29) (hd_bf_hf : x + 29 + 28 ≤ x + 87 ∨ x + 87 + 224 ≤ x + 29) (hd_bf_pg : x + 29 + 28 ≤ x + 319 ∨ x + 319 + 1 ≤ x + 29) (hd_bf_pr : x + 29 + 28 ≤ x + 322 ∨ x + 322 + 10 ≤ x + 29) (hd_hi_hf : x + 85 + 2 ≤ x + 87 ∨ x + 87 + 224 ≤ x + 85) (hd_hi_pg : x + 85 + 2 ≤ x + 319 ∨ x + 319 + 1 ≤ x + 85) (hd_hi_pr : x + 85 + 2 ≤ x + 322 ∨ x + 322 + 10 ≤ x + 85) (hd_hf_pg : x + 87 + 224 ≤ x + 319 ∨ x + 319 + 1 ≤ x + 87) (hd_hf_pr : x + 87 + 224 ≤ x + 322 ∨ x + 322 + 10 ≤ x + 87) : Mu l yX9_executeProgram cX9_executeProgram 7 (some .boolean) 9 0 0 E [(x + 1, 28), (x + 29, 28), (x + 85, 2), (x + 87, 224)] [.ref x] (fun H => PR E x [(x, .inr (11, [.ref (x + 1), .ref (x + 29), .ref (x + 57), .ref (x + 85), .ref (x + 311), .ref (x + 314), .ref (x + 319), .ref (x + 332), .int (zI hs), .int (zI er), .int (zI fa), .int (zI ss)]))] H ∧ PR E (x + 1) (courtW E (x + 1) co) H ∧ PR E (x + 29) (courtW E (x + 29) bf) H ∧ PR E (x + 85) [(x + 85, .inr (7, [.ref (x + 86), .int (zI nx), .int (zI sz)])), (x + 86, .inl (E 102 3, 8, .inr (.inr (.inr (.inr (hisA (x + 87) 8))))))] H ∧ HF E (x + 87) 8 hc H ∧ PR E (x + 319) [(x + 319, .inr (8, [.ref (x + 320), .int (zI pos), .int (zI siz), .ref (x + 322), .ref (x + 324), .ref (x + 326), .ref (x + 328), .ref (x + 330)]))] H ∧ PR E (x + 322) (prowsW E (x + 322) pr) H) (fun rv H => rv = some (.int (zI 1)) ∧ PR E (x + 1) (courtW E (x + 1) ((exF pr siz.toNat 0 co).2.2)) H ∧ PR E (x + 29) (courtW E (x + 29) co) H ∧ PR E (x + 85) [(x + 85, .inr (7, [.ref (x + 86), .int (zI (if nx < 7 then nx + 1 else 0)), .int (zI (min (sz + 1) 8))])), (x + 86, .inl (E 102 3, 8, .inr (.inr (.inr (.inr (hisA (x + 87) 8))))))] H ∧ HF E (x + 87) 8 (fun j => if j = nx.toNat then co else hc j) H) := by
  refine Mu.start (own := RX9) rfl (by decide +kernel) (Nat.le_of_ble_eq_true rfl) ?_
  intro p e s m below meth cd args Q hQ X hr hlk hnm hM hPr
  obtain ⟨h_cm, h_co, h_bf, h_hi, h_hf, h_pg, h_pr⟩ := hPr
  have hb0 := hO.b0
  have hbw := hO.bw
  refine v_aload_n X dX9_executeProgram_0 1 rfl 0 rfl ?_
  refine v_getf X hM.C h_cm.1 inX9 0 rfl rfl 1 (by decide) kf_X9_16 (fun _ h => h) rfl dX9_executeProgram_1 4 rfl ?_
  refine v_aload_n X dX9_executeProgram_4 5 rfl 0 rfl ?_
  refine v_getf X hM.C h_cm.1 inX9 0 rfl rfl 0 (by decide) kf_X9_10 (fun _ h => h) rfl dX9_executeProgram_5 8 rfl ?_
  refine v_muV X hM (h_bf.1) (c_X0_copyFrom l E (x + 29) (x + 1) bf co (by omega)) kvX0_copyFrom kiX0_copyFrom kl_X9_354 (q0 := 0) rfl rfl (As := [.ref (x + 1)]) rfl rfl rfl dX9_executeProgram_8 11 rfl (k' := 0) (n' := 0) rfl rfl (fsI (fun q q1 q2 => (Or.inl (fsT (fsH (by omega) (by omega)))))) ⟨h_bf, h_co⟩ (fun rv H1 lo1 hM hF hpo => ?_)
  obtain ⟨rfl, hw_0⟩ := hpo
  have h_bf : PR E (x + 29) (courtW E (x + 29) co) H1 := hw_0
  replace h_cm := h_cm.kept hF 1 rfl (fsd (by omega))
  replace h_co := h_co.kept hF 28 rfl (fsd (by omega))
  replace h_hi := h_hi.kept hF 2 rfl (fsd (by omega))
  replace h_hf := h_hf.kept hF (fsd (by omega))
  replace h_pg := h_pg.kept hF 1 rfl (fsd (by omega))
  replace h_pr := h_pr.kept hF 10 rfl (fsd (by omega))
  show V p l e (rmL 9 0 0) s m args below meth cd Q 7 H1 lo1 0 0 11 [(0, .ref x)] []
  refine v_iconst X dX9_executeProgram_11 12 rfl ?_
  refine v_istore_n X dX9_executeProgram_12 13 rfl rfl (by decide) (L' := [(1, .int (zI 0)), (0, .ref x)]) rfl ?_
  refine V_L (L' := [(1, .int (zI 0)), (0, .ref x)]) (LC rfl (LC rfl rfl)) ?_
  refine up_loop siz.toNat (P := fun (i : Nat) => ∀ (cq : Nat → Int → Int), (exF pr (siz.toNat - i) (i : Int) cq = exF pr siz.toNat 0 co) → (Pk cq) → (OkC cq) → ∀ (H : Heap) (lo : List Loc), MS E [(x + 1, 28), (x + 29, 28), (x + 85, 2), (x + 87, 224)] s H lo → PR E x [(x, .inr (11, [.ref (x + 1), .ref (x + 29), .ref (x + 57), .ref (x + 85), .ref (x + 311), .ref (x + 314), .ref (x + 319), .ref (x + 332), .int (zI hs), .int (zI er), .int (zI fa), .int (zI ss)]))] H → PR E (x + 1) (courtW E (x + 1) cq) H → PR E (x + 29) (courtW E (x + 29) co) H → PR E (x + 85) [(x + 85, .inr (7, [.ref (x + 86), .int (zI nx), .int (zI sz)])), (x + 86, .inl (E 102 3, 8, .inr (.inr (.inr (.inr (hisA (x + 87) 8))))))] H → HF E (x + 87) 8 hc H → PR E (x + 319) [(x + 319, .inr (8, [.ref (x + 320), .int (zI pos), .int (zI siz), .ref (x + 322), .ref (x + 324), .ref (x + 326), .ref (x + 328), .ref (x + 330)]))] H → PR E (x + 322) (prowsW E (x + 322) pr) H → V p l e (rmL 9 0 0) s m args below meth cd Q 7 H lo 0 0 13 [(1, .int (zI (i : Int))), (0, .ref x)] []) (fun i hi_i ih_i cq hex hPq hOq H2 lo2 hM h_cm h_co h_bf h_hi h_hf h_pg h_pr => ?_) co rfl hP0 hO _ _ hM h_cm h_co h_bf h_hi h_hf h_pg h_pr
  refine v_iload_n X dX9_executeProgram_13 14 rfl 0 rfl ?_
  refine v_aload_n X dX9_executeProgram_14 15 rfl 1 rfl ?_
  refine v_getf X hM.C h_cm.1 inX9 0 rfl rfl 6 (by decide) kf_X9_46 (fun _ h => h) rfl dX9_executeProgram_15 18 rfl ?_
  refine v_getfN X hM.C h_pg.1 inX5 0 rfl rfl 2 (by decide) kfn_X9_340 (fun _ h => h) rfl dX9_executeProgram_18 21 rfl ?_
  show V p l e (rmL 9 0 0) s m args below meth cd Q 7 H2 lo2 0 0 21 [(1, .int (zI (i : Int))), (0, .ref x)] [.int (zI siz), .int (zI (i : Int))]
  refine v_icmp_ge X (by omega) (by omega) dX9_executeProgram_21 24 171 rfl (by decide) (fun c_3 => ?_) (fun c_3 => ?_)
  · skip
    have hfin : exF pr siz.toNat 0 co = (0, (i : Int), cq) := by rw [← hex, show siz.toNat - i = 0 by omega]; rfl
    refine v_aload_n X dX9_executeProgram_171 172 rfl 1 rfl ?_
    refine v_getf X hM.C h_cm.1 inX9 0 rfl rfl 3 (by decide) kf_X9_25 (fun _ h => h) rfl dX9_executeProgram_172 175 rfl ?_
    refine v_aload_n X dX9_executeProgram_175 176 rfl 1 rfl ?_
    refine v_getf X hM.C h_cm.1 inX9 0 rfl rfl 1 (by decide) kf_X9_16 (fun _ h => h) rfl dX9_executeProgram_176 179 rfl ?_
    refine v_muV X hM (h_hi.1) (c_X4_keep l E (x + 85) (x + 29) co hc nx sz n0 n1 s0 s1 (by omega) (by omega) (by omega)) kvX4_keep kiX4_keep kl_X9_370 (q0 := 0) rfl rfl (As := [.ref (x + 29)]) rfl rfl rfl dX9_executeProgram_179 182 rfl (k' := 0) (n' := 0) rfl rfl (by intro q hq; simp only [Fr, Fs, or_false, false_or] at hq ⊢; omega) ⟨h_hi, h_hf, h_bf⟩ (fun rv H4 lo4 hM hF hpo => ?_)
    obtain ⟨rfl, hw_0, hw_1⟩ := hpo
    have h_hi : PR E (x + 85) [(x + 85, .inr (7, [.ref ((x + 85) + 1), .int (zI (if nx < 7 then nx + 1 else 0)), .int (zI (min (sz + 1) 8))])), (x + 86, .inl (E 102 3, 8, .inr (.inr (.inr (.inr (hisA ((x + 85) + 2) 8))))))] H4 := hw_0
    have h_hf : HF E ((x + 85) + 2) 8 (fun j => if j = nx.toNat then co else hc j) H4 := hw_1
    replace h_cm := h_cm.kept hF 1 rfl (by intro q q1 q2 q3; simp only [Fs, or_false] at q3; omega)
    replace h_co := h_co.kept hF 28 rfl (by intro q q1 q2 q3; simp only [Fs, or_false] at q3; omega)
    replace h_bf := h_bf.kept hF 28 rfl (by intro q q1 q2 q3; simp only [Fs, or_false] at q3; omega)
    replace h_pg := h_pg.kept hF 1 rfl (by intro q q1 q2 q3; simp only [Fs, or_false] at q3; omega)
    replace h_pr := h_pr.kept hF 10 rfl (by intro q q1 q2 q3; simp only [Fs, or_false] at q3; omega)
    show V p l e (rmL 9 0 0) s m args below meth cd Q 7 H4 lo4 0 0 182 [(1, .int (zI (i : Int))), (0, .ref x)] []
    refine v_iconst X dX9_executeProgram_182 183 rfl ?_
    subst hQ; exact m_zret X hr hlk hM dX9_executeProgram_183 rfl (by omega) ⟨rfl, (PR.to h_co (by rw [hfin])), h_bf, h_hi, h_hf⟩
  · skip
    refine v_aload_n X dX9_executeProgram_24 25 rfl 1 rfl ?_
    refine v_getf X hM.C h_cm.1 inX9 0 rfl rfl 6 (by decide) kf_X9_46 (fun _ h => h) rfl dX9_executeProgram_25 28 rfl ?_
    refine v_getfN X hM.C h_pg.1 inX5 0 rfl rfl 3 (by decide) kfn_X9_399 (fun _ h => h) rfl dX9_executeProgram_28 31 rfl ?_
    refine v_iload_n X dX9_executeProgram_31 32 rfl 0 rfl ?_
    refine v_rdV X hM.C (PW.part h_pr.1 0 2 (wc := rowW E (x + 322) 8 (pr 1)) rfl) (c_X6_get l E (x + 322) 8 (pr 1) (i : Int) (by omega) (by omega) (by omega)) kvX6_get kiX6_get kl_X9_109 rfl rfl (As := [.int (zI (i : Int))]) rfl rfl rfl dX9_executeProgram_32 35 rfl ?_
    show V p l e (rmL 9 0 0) s m args below meth cd Q 7 H2 lo2 0 0 35 [(1, .int (zI (i : Int))), (0, .ref x)] [.int (zI (pr 1 (i : Int)))]
    have hb_5 := hpr1 (i : Int)
    refine v_istore_n X dX9_executeProgram_35 36 rfl rfl (by decide) (L' := [(2, .int (zI (pr 1 (i : Int)))), (1, .int (zI (i : Int))), (0, .ref x)]) rfl ?_
    refine v_aload_n X dX9_executeProgram_36 37 rfl 2 rfl ?_
    refine v_getf X hM.C h_cm.1 inX9 0 rfl rfl 6 (by decide) kf_X9_46 (fun _ h => h) rfl dX9_executeProgram_37 40 rfl ?_
    refine v_getfN X hM.C h_pg.1 inX5 0 rfl rfl 4 (by decide) kfn_X9_402 (fun _ h => h) rfl dX9_executeProgram_40 43 rfl ?_
    refine v_iload_n X dX9_executeProgram_43 44 rfl 1 rfl ?_
    refine v_rdV X hM.C (PW.part h_pr.1 2 2 (wc := rowW E (x + 324) 8 (pr 2)) rfl) (c_X6_get l E (x + 324) 8 (pr 2) (i : Int) (by omega) (by omega) (by omega)) kvX6_get kiX6_get kl_X9_109 rfl rfl (As := [.int (zI (i : Int))]) rfl rfl rfl dX9_executeProgram_44 47 rfl ?_
    show V p l e (rmL 9 0 0) s m args below meth cd Q 7 H2 lo2 0 0 47 [(2, .int (zI (pr 1 (i : Int)))), (1, .int (zI (i : Int))), (0, .ref x)] [.int (zI (pr 2 (i : Int)))]
    have hb_6 := hpr 2 (i : Int)
    refine v_istore_n X dX9_executeProgram_47 48 rfl rfl (by decide) (L' := [(3, .int (zI (pr 2 (i : Int)))), (2, .int (zI (pr 1 (i : Int)))), (1, .int (zI (i : Int))), (0, .ref x)]) rfl ?_
    refine v_aload_n X dX9_executeProgram_48 49 rfl 3 rfl ?_
    refine v_getf X hM.C h_cm.1 inX9 0 rfl rfl 6 (by decide) kf_X9_46 (fun _ h => h) rfl dX9_executeProgram_49 52 rfl ?_
    refine v_getfN X hM.C h_pg.1 inX5 0 rfl rfl 5 (by decide) kfn_X9_405 (fun _ h => h) rfl dX9_executeProgram_52 55 rfl ?_
    refine v_iload_n X dX9_executeProgram_55 56 rfl 2 rfl ?_
    refine v_rdV X hM.C (PW.part h_pr.1 4 2 (wc := rowW E (x + 326) 8 (pr 3)) rfl) (c_X6_get l E (x + 326) 8 (pr 3) (i : Int) (by omega) (by omega) (by omega)) kvX6_get kiX6_get kl_X9_109 rfl rfl (As := [.int (zI (i : Int))]) rfl rfl rfl dX9_executeProgram_56 59 rfl ?_
    show V p l e (rmL 9 0 0) s m args below meth cd Q 7 H2 lo2 0 0 59 [(3, .int (zI (pr 2 (i : Int)))), (2, .int (zI (pr 1 (i : Int)))), (1, .int (zI (i : Int))), (0, .ref x)] [.int (zI (pr 3 (i : Int)))]
    have hb_7 := hpr 3 (i : Int)
    refine v_istore X dX9_executeProgram_59 61 rfl (by decide) (L' := [(4, .int (zI (pr 3 (i : Int)))), (3, .int (zI (pr 2 (i : Int)))), (2, .int (zI (pr 1 (i : Int)))), (1, .int (zI (i : Int))), (0, .ref x)]) rfl ?_
    refine v_aload_n X dX9_executeProgram_61 62 rfl 4 rfl ?_
    refine v_getf X hM.C h_cm.1 inX9 0 rfl rfl 6 (by decide) kf_X9_46 (fun _ h => h) rfl dX9_executeProgram_62 65 rfl ?_
    refine v_getfN X hM.C h_pg.1 inX5 0 rfl rfl 7 (by decide) kfn_X9_408 (fun _ h => h) rfl dX9_executeProgram_65 68 rfl ?_
    refine v_iload_n X dX9_executeProgram_68 69 rfl 3 rfl ?_
    refine v_rdV X hM.C (PW.part h_pr.1 8 2 (wc := rowW E (x + 330) 8 (pr 5)) rfl) (c_X6_get l E (x + 330) 8 (pr 5) (i : Int) (by omega) (by omega) (by omega)) kvX6_get kiX6_get kl_X9_109 rfl rfl (As := [.int (zI (i : Int))]) rfl rfl rfl dX9_executeProgram_69 72 rfl ?_
    show V p l e (rmL 9 0 0) s m args below meth cd Q 7 H2 lo2 0 0 72 [(4, .int (zI (pr 3 (i : Int)))), (3, .int (zI (pr 2 (i : Int)))), (2, .int (zI (pr 1 (i : Int)))), (1, .int (zI (i : Int))), (0, .ref x)] [.int (zI (pr 5 (i : Int)))]
    have hb_8 := hpr 5 (i : Int)
    refine v_istore X dX9_executeProgram_72 74 rfl (by decide) (L' := [(5, .int (zI (pr 5 (i : Int)))), (4, .int (zI (pr 3 (i : Int)))), (3, .int (zI (pr 2 (i : Int)))), (2, .int (zI (pr 1 (i : Int)))), (1, .int (zI (i : Int))), (0, .ref x)]) rfl ?_
    refine v_aload_n X dX9_executeProgram_74 75 rfl 5 rfl ?_
    refine v_getf X hM.C h_cm.1 inX9 0 rfl rfl 0 (by decide) kf_X9_10 (fun _ h => h) rfl dX9_executeProgram_75 78 rfl ?_
    refine v_iload_n X dX9_executeProgram_78 79 rfl 3 rfl ?_
    refine v_iload_n X dX9_executeProgram_79 80 rfl 2 rfl ?_
    refine v_iload X dX9_executeProgram_80 82 rfl 1 rfl ?_
    refine v_iload X dX9_executeProgram_82 84 rfl 0 rfl ?_
    refine v_rdV X hM.C h_co.1 (c_X0_faultOf l E (x + 1) cq (pr 1 (i : Int)) (pr 2 (i : Int)) (pr 3 (i : Int)) (pr 5 (i : Int)) hOq (by omega) (by omega) (by omega) (by omega)) kvX0_faultOf kiX0_faultOf kl_X9_362 rfl rfl (As := [.int (zI (pr 1 (i : Int))), .int (zI (pr 2 (i : Int))), .int (zI (pr 3 (i : Int))), .int (zI (pr 5 (i : Int)))]) rfl rfl rfl dX9_executeProgram_84 87 rfl ?_
    show V p l e (rmL 9 0 0) s m args below meth cd Q 7 H2 lo2 0 0 87 [(5, .int (zI (pr 5 (i : Int)))), (4, .int (zI (pr 3 (i : Int)))), (3, .int (zI (pr 2 (i : Int)))), (2, .int (zI (pr 1 (i : Int)))), (1, .int (zI (i : Int))), (0, .ref x)] [.ref (E 103 (flC cq (pr 1 (i : Int)) (pr 2 (i : Int)) (pr 3 (i : Int)) (pr 5 (i : Int))))]
    refine v_astore X dX9_executeProgram_87 89 rfl (by decide) (L' := [(6, .ref (E 103 (flC cq (pr 1 (i : Int)) (pr 2 (i : Int)) (pr 3 (i : Int)) (pr 5 (i : Int))))), (5, .int (zI (pr 5 (i : Int)))), (4, .int (zI (pr 3 (i : Int)))), (3, .int (zI (pr 2 (i : Int)))), (2, .int (zI (pr 1 (i : Int)))), (1, .int (zI (i : Int))), (0, .ref x)]) rfl ?_
    refine v_aload X dX9_executeProgram_89 91 rfl 0 rfl ?_
    refine v_flt X hM 0 (by decide) kf_X9_411 dX9_executeProgram_91 94 rfl ?_
    refine v_acmp_eq X dX9_executeProgram_94 97 132 rfl (by decide) (fun c_9 => ?_) (fun c_9 => ?_)
    · skip
      have hfz : flC cq (pr 1 (i : Int)) (pr 2 (i : Int)) (pr 3 (i : Int)) (pr 5 (i : Int)) = 0 := flt_inj hM (flC_b _ _ _ _ _) (by decide) c_9
      refine v_aload_n X dX9_executeProgram_132 133 rfl 6 rfl ?_
      refine v_getf X hM.C h_cm.1 inX9 0 rfl rfl 0 (by decide) kf_X9_10 (fun _ h => h) rfl dX9_executeProgram_133 136 rfl ?_
      refine v_iload_n X dX9_executeProgram_136 137 rfl 4 rfl ?_
      refine v_iload_n X dX9_executeProgram_137 138 rfl 3 rfl ?_
      refine v_iload X dX9_executeProgram_138 140 rfl 2 rfl ?_
      refine v_aload_n X dX9_executeProgram_140 141 rfl 6 rfl ?_
      refine v_getf X hM.C h_cm.1 inX9 0 rfl rfl 6 (by decide) kf_X9_46 (fun _ h => h) rfl dX9_executeProgram_141 144 rfl ?_
      refine v_getfN X hM.C h_pg.1 inX5 0 rfl rfl 6 (by decide) kfn_X9_414 (fun _ h => h) rfl dX9_executeProgram_144 147 rfl ?_
      refine v_iload_n X dX9_executeProgram_147 148 rfl 5 rfl ?_
      refine v_rdV X hM.C (PW.part h_pr.1 6 2 (wc := rowW E (x + 328) 8 (pr 4)) rfl) (c_X6_get l E (x + 328) 8 (pr 4) (i : Int) (by omega) (by omega) (by omega)) kvX6_get kiX6_get kl_X9_109 rfl rfl (As := [.int (zI (i : Int))]) rfl rfl rfl dX9_executeProgram_148 151 rfl ?_
      show V p l e (rmL 9 0 0) s m args below meth cd Q 7 H2 lo2 0 0 151 [(6, .ref (E 103 (flC cq (pr 1 (i : Int)) (pr 2 (i : Int)) (pr 3 (i : Int)) (pr 5 (i : Int))))), (5, .int (zI (pr 5 (i : Int)))), (4, .int (zI (pr 3 (i : Int)))), (3, .int (zI (pr 2 (i : Int)))), (2, .int (zI (pr 1 (i : Int)))), (1, .int (zI (i : Int))), (0, .ref x)] [.int (zI (pr 4 (i : Int))), .int (zI (pr 3 (i : Int))), .int (zI (pr 2 (i : Int))), .int (zI (pr 1 (i : Int))), .ref (x + 1)]
      have hb_10 := hpr 4 (i : Int)
      refine v_if_eq X (by omega) dX9_executeProgram_151 154 158 rfl (by decide) (fun c_11 => ?_) (fun c_11 => ?_)
      · skip
        refine v_iconst X dX9_executeProgram_158 159 rfl ?_
        refine v_iload X dX9_executeProgram_159 161 rfl 1 rfl ?_
        refine v_muV X hM (h_co.1) (c_X0_perform l E (x + 1) cq (pr 1 (i : Int)) (pr 2 (i : Int)) (pr 3 (i : Int)) 0 (pr 5 (i : Int)) hOq (by omega) (by omega) (by omega) (by omega) (by omega) hfz) kvX0_perform kiX0_perform kl_X9_373 (q0 := 0) rfl rfl (As := [.int (zI (pr 1 (i : Int))), .int (zI (pr 2 (i : Int))), .int (zI (pr 3 (i : Int))), .int (zI 0), .int (zI (pr 5 (i : Int)))]) rfl rfl rfl dX9_executeProgram_161 164 rfl (k' := 0) (n' := 0) rfl rfl (fsI (fun q q1 q2 => (Or.inl (fsH (by omega) (by omega))))) h_co (fun rv H12 lo12 hM hF hpo => ?_)
        obtain ⟨rfl, hw_0⟩ := hpo
        have h_co : PR E (x + 1) (courtW E (x + 1) (opC cq (pr 1 (i : Int)) (pr 2 (i : Int)) (pr 3 (i : Int)) 0 (pr 5 (i : Int)))) H12 := hw_0
        replace h_cm := h_cm.kept hF 1 rfl (fsd (by omega))
        replace h_bf := h_bf.kept hF 28 rfl (fsd (by omega))
        replace h_hi := h_hi.kept hF 2 rfl (fsd (by omega))
        replace h_hf := h_hf.kept hF (fsd (by omega))
        replace h_pg := h_pg.kept hF 1 rfl (fsd (by omega))
        replace h_pr := h_pr.kept hF 10 rfl (fsd (by omega))
        show V p l e (rmL 9 0 0) s m args below meth cd Q 7 H12 lo12 0 0 164 [(6, .ref (E 103 (flC cq (pr 1 (i : Int)) (pr 2 (i : Int)) (pr 3 (i : Int)) (pr 5 (i : Int))))), (5, .int (zI (pr 5 (i : Int)))), (4, .int (zI (pr 3 (i : Int)))), (3, .int (zI (pr 2 (i : Int)))), (2, .int (zI (pr 1 (i : Int)))), (1, .int (zI (i : Int))), (0, .ref x)] [.int (zI (opV cq (pr 1 (i : Int)) (pr 2 (i : Int)) (pr 3 (i : Int)) 0 (pr 5 (i : Int))))]
        refine v_pop X dX9_executeProgram_164 165 rfl rfl ?_
        refine v_iinc X dX9_executeProgram_165 168 rfl 5 rfl (by decide) (L' := [(1, .int (zI ((i : Int) + 1))), (6, .ref (E 103 (flC cq (pr 1 (i : Int)) (pr 2 (i : Int)) (pr 3 (i : Int)) (pr 5 (i : Int))))), (5, .int (zI (pr 5 (i : Int)))), (4, .int (zI (pr 3 (i : Int)))), (3, .int (zI (pr 2 (i : Int)))), (2, .int (zI (pr 1 (i : Int)))), (0, .ref x)]) rfl ?_
        refine v_goto X dX9_executeProgram_168 13 (by decide) ?_
        refine v_locals [0, 6] (L' := [(1, .int (zI ((i : Int) + 1))), (0, .ref x)]) rfl ?_
        exact V_L (L' := [(1, .int (zI ((i + 1 : Nat) : Int))), (0, .ref x)]) (LC (vz (by omega)) (LC rfl rfl)) (ih_i (by omega) (opC cq (pr 1 (i : Int)) (pr 2 (i : Int)) (pr 3 (i : Int)) 0 (pr 5 (i : Int))) (by rw [← hex, show siz.toNat - i = (siz.toNat - (i + 1)) + 1 by omega, exF_1 hfz (by first | exact bz_t (by omega) | exact bz_f (by omega))]; rfl) (hPs _ _ _ _ _ _ hPq (hpr1 _) (by omega) hfz) (hPO _ (hPs _ _ _ _ _ _ hPq (hpr1 _) (by omega) hfz)) _ _ hM h_cm h_co h_bf h_hi h_hf h_pg h_pr)
      · skip
        refine v_iconst X dX9_executeProgram_154 155 rfl ?_
        refine v_goto X dX9_executeProgram_155 159 (by decide) ?_
        refine v_iload X dX9_executeProgram_159 161 rfl 1 rfl ?_
        refine v_muV X hM (h_co.1) (c_X0_perform l E (x + 1) cq (pr 1 (i : Int)) (pr 2 (i : Int)) (pr 3 (i : Int)) 1 (pr 5 (i : Int)) hOq (by omega) (by omega) (by omega) (by omega) (by omega) hfz) kvX0_perform kiX0_perform kl_X9_373 (q0 := 0) rfl rfl (As := [.int (zI (pr 1 (i : Int))), .int (zI (pr 2 (i : Int))), .int (zI (pr 3 (i : Int))), .int (zI 1), .int (zI (pr 5 (i : Int)))]) rfl rfl rfl dX9_executeProgram_161 164 rfl (k' := 0) (n' := 0) rfl rfl (fsI (fun q q1 q2 => (Or.inl (fsH (by omega) (by omega))))) h_co (fun rv H13 lo13 hM hF hpo => ?_)
        obtain ⟨rfl, hw_0⟩ := hpo
        have h_co : PR E (x + 1) (courtW E (x + 1) (opC cq (pr 1 (i : Int)) (pr 2 (i : Int)) (pr 3 (i : Int)) 1 (pr 5 (i : Int)))) H13 := hw_0
        replace h_cm := h_cm.kept hF 1 rfl (fsd (by omega))
        replace h_bf := h_bf.kept hF 28 rfl (fsd (by omega))
        replace h_hi := h_hi.kept hF 2 rfl (fsd (by omega))
        replace h_hf := h_hf.kept hF (fsd (by omega))
        replace h_pg := h_pg.kept hF 1 rfl (fsd (by omega))
        replace h_pr := h_pr.kept hF 10 rfl (fsd (by omega))
        show V p l e (rmL 9 0 0) s m args below meth cd Q 7 H13 lo13 0 0 164 [(6, .ref (E 103 (flC cq (pr 1 (i : Int)) (pr 2 (i : Int)) (pr 3 (i : Int)) (pr 5 (i : Int))))), (5, .int (zI (pr 5 (i : Int)))), (4, .int (zI (pr 3 (i : Int)))), (3, .int (zI (pr 2 (i : Int)))), (2, .int (zI (pr 1 (i : Int)))), (1, .int (zI (i : Int))), (0, .ref x)] [.int (zI (opV cq (pr 1 (i : Int)) (pr 2 (i : Int)) (pr 3 (i : Int)) 1 (pr 5 (i : Int))))]
        refine v_pop X dX9_executeProgram_164 165 rfl rfl ?_
        refine v_iinc X dX9_executeProgram_165 168 rfl 5 rfl (by decide) (L' := [(1, .int (zI ((i : Int) + 1))), (6, .ref (E 103 (flC cq (pr 1 (i : Int)) (pr 2 (i : Int)) (pr 3 (i : Int)) (pr 5 (i : Int))))), (5, .int (zI (pr 5 (i : Int)))), (4, .int (zI (pr 3 (i : Int)))), (3, .int (zI (pr 2 (i : Int)))), (2, .int (zI (pr 1 (i : Int)))), (0, .ref x)]) rfl ?_
        refine v_goto X dX9_executeProgram_168 13 (by decide) ?_
        refine v_locals [0, 6] (L' := [(1, .int (zI ((i : Int) + 1))), (0, .ref x)]) rfl ?_
        exact V_L (L' := [(1, .int (zI ((i + 1 : Nat) : Int))), (0, .ref x)]) (LC (vz (by omega)) (LC rfl rfl)) (ih_i (by omega) (opC cq (pr 1 (i : Int)) (pr 2 (i : Int)) (pr 3 (i : Int)) 1 (pr 5 (i : Int))) (by rw [← hex, show siz.toNat - i = (siz.toNat - (i + 1)) + 1 by omega, exF_1 hfz (by first | exact bz_t (by omega) | exact bz_f (by omega))]; rfl) (hPs _ _ _ _ _ _ hPq (hpr1 _) (by omega) hfz) (hPO _ (hPs _ _ _ _ _ _ hPq (hpr1 _) (by omega) hfz)) _ _ hM h_cm h_co h_bf h_hi h_hf h_pg h_pr)
    · skip
      have hfz : ¬ flC cq (pr 1 (i : Int)) (pr 2 (i : Int)) (pr 3 (i : Int)) (pr 5 (i : Int)) = 0 := fun q => c_9 (by rw [q])
      have hfin : exF pr siz.toNat 0 co = (flC cq (pr 1 (i : Int)) (pr 2 (i : Int)) (pr 3 (i : Int)) (pr 5 (i : Int)), (i : Int), cq) := by rw [← hex, show siz.toNat - i = (siz.toNat - (i + 1)) + 1 by omega]; exact exF_2 hfz
      rw [hfin] at hx
      exact absurd hx hfz
set_option maxHeartbeats 4000000 in
set_option maxRecDepth 20000 in
theorem c_X9_executeProgram_0 (l : Launch) (E : Nat → Nat → Nat) (x : Nat) (co : Nat → Int → Int) (hs : Int) (er : Int) (fa : Int) (ss : Int) (bf : Nat → Int → Int) (hc : Nat → Nat → Int → Int) (nx : Int) (sz : Int) (pos : Int) (siz : Int) (pr : Nat → Int → Int) (Pk : (Nat → Int → Int) → Prop) (hO : OkC co) (hPO : ∀ c : Nat → Int → Int, Pk c → OkC c) (hPs : ∀ (c : Nat → Int → Int) (kd a y f z : Int), Pk c → (0 ≤ kd ∧ kd ≤ 6) → (0 ≤ f ∧ f ≤ 1) → flC c kd a y z = 0 → Pk (opC c kd a y f z)) (hP0 : Pk co) (hpr1 : ∀ j : Int, 0 ≤ pr 1 j ∧ pr 1 j ≤ 6) (hpr : ∀ (r : Nat) (j : Int), 0 ≤ pr r j ∧ pr r j ≤ 99) (n0 : 0 ≤ nx) (n1 : nx < 8) (s0 : 0 ≤ sz) (s1 : sz ≤ 8) (si0 : 0 ≤ siz) (si1 : siz ≤ 8) (hx : ¬ (exF pr siz.toNat 0 co).1 = 0) (hd_cm_co : x + 1 ≤ x + 1 ∨ x + 1 + 28 ≤ x) (hd_cm_bf : x + 1 ≤ x + 29 ∨ x + 29 + 28 ≤ x) (hd_cm_hi : x + 1 ≤ x + 85 ∨ x + 85 + 2 ≤ x) (hd_cm_hf : x + 1 ≤ x + 87 ∨ x + 87 + 224 ≤ x) (hd_cm_pg : x + 1 ≤ x + 319 ∨ x + 319 + 1 ≤ x) (hd_cm_pr : x + 1 ≤ x + 322 ∨ x + 322 + 10 ≤ x) (hd_co_bf : x + 1 + 28 ≤ x + 29 ∨ x + 29 + 28 ≤ x + 1) (hd_co_hi : x + 1 + 28 ≤ x + 85 ∨ x + 85 + 2 ≤ x + 1) (hd_co_hf : x + 1 + 28 ≤ x + 87 ∨ x + 87 + 224 ≤ x + 1) (hd_co_pg : x + 1 + 28 ≤ x + 319 ∨ x + 319 + 1 ≤ x + 1) (hd_co_pr : x + 1 + 28 ≤ x + 322 ∨ x + 322 + 10 ≤ x + 1) (hd_bf_hi : x + 29 + 28 ≤ x + 85 ∨ x + 85 + 2 ≤ x + 29) (hd_bf_hf : x + 29 + 28 ≤ x + 87 ∨ x + 87 + 224 ≤ x + 29) (hd_bf_pg : x + 29 + 28 ≤ x + 319 ∨ x + 319 + 1 ≤ x + 29) (hd_bf_pr : x + 29 + 28 ≤ x + 322 ∨ x + 322 + 10 ≤ x + 29) : Mu l yX9_executeProgram cX9_executeProgram 7 (some .boolean) 9 0 0 E [(x, 1), (x + 1, 28), (x + 29, 28)] [.ref x] (fun H => PR E x [(x, .inr (11, [.ref (x + 1), .ref (x + 29), .ref (x + 57), .ref (x + 85), .ref (x + 311), .ref (x + 314), .ref (x + 319), .ref (x + 332), .int (zI hs), .int (zI er), .int (zI fa), .int (zI ss)]))] H ∧ PR E (x + 1) (courtW E (x + 1) co) H ∧ PR E (x + 29) (courtW E (x + 29) bf) H ∧ PR E (x + 85) [(x + 85, .inr (7, [.ref (x + 86), .int (zI nx), .int (zI sz)])), (x + 86, .inl (E 102 3, 8, .inr (.inr (.inr (.inr (hisA (x + 87) 8))))))] H ∧ HF E (x + 87) 8 hc H ∧ PR E (x + 319) [(x + 319, .inr (8, [.ref (x + 320), .int (zI pos), .int (zI siz), .ref (x + 322), .ref (x + 324), .ref (x + 326), .ref (x + 328), .ref (x + 330)]))] H ∧ PR E (x + 322) (prowsW E (x + 322) pr) H) (fun rv H => rv = some (.int (zI 0)) ∧ PR E x [(x, .inr (11, [.ref (x + 1), .ref (x + 29), .ref (x + 57), .ref (x + 85), .ref (x + 311), .ref (x + 314), .ref (x + 319), .ref (x + 332), .int (zI hs), .int (zI er), .int (zI ((exF pr siz.toNat 0 co).2.1)), .int (zI (bz ((exF pr siz.toNat 0 co).1 = 4)))]))] H ∧ PR E (x + 1) (courtW E (x + 1) co) H ∧ PR E (x + 29) (courtW E (x + 29) co) H) := by
  refine Mu.start (own := RX9) rfl (by decide +kernel) (Nat.le_of_ble_eq_true rfl) ?_
  intro p e s m below meth cd args Q hQ X hr hlk hnm hM hPr
  obtain ⟨h_cm, h_co, h_bf, h_hi, h_hf, h_pg, h_pr⟩ := hPr
  have hb0 := hO.b0
  have hbw := hO.bw
  refine v_aload_n X dX9_executeProgram_0 1 rfl 0 rfl ?_
  refine v_getf X hM.C h_cm.1 inX9 0 rfl rfl 1 (by decide) kf_X9_16 (fun _ h => h) rfl dX9_executeProgram_1 4 rfl ?_
  refine v_aload_n X dX9_executeProgram_4 5 rfl 0 rfl ?_
  refine v_getf X hM.C h_cm.1 inX9 0 rfl rfl 0 (by decide) kf_X9_10 (fun _ h => h) rfl dX9_executeProgram_5 8 rfl ?_
  refine v_muV X hM (h_bf.1) (c_X0_copyFrom l E (x + 29) (x + 1) bf co (by omega)) kvX0_copyFrom kiX0_copyFrom kl_X9_354 (q0 := 0) rfl rfl (As := [.ref (x + 1)]) rfl rfl rfl dX9_executeProgram_8 11 rfl (k' := 0) (n' := 0) rfl rfl (fsI (fun q q1 q2 => (Or.inl (fsT (fsT (fsH (by omega) (by omega))))))) ⟨h_bf, h_co⟩ (fun rv H1 lo1 hM hF hpo => ?_)
  obtain ⟨rfl, hw_0⟩ := hpo
  have h_bf : PR E (x + 29) (courtW E (x + 29) co) H1 := hw_0
  replace h_cm := h_cm.kept hF 1 rfl (fsd (by omega))
  replace h_co := h_co.kept hF 28 rfl (fsd (by omega))
  replace h_hi := h_hi.kept hF 2 rfl (fsd (by omega))
  replace h_hf := h_hf.kept hF (fsd (by omega))
  replace h_pg := h_pg.kept hF 1 rfl (fsd (by omega))
  replace h_pr := h_pr.kept hF 10 rfl (fsd (by omega))
  show V p l e (rmL 9 0 0) s m args below meth cd Q 7 H1 lo1 0 0 11 [(0, .ref x)] []
  refine v_iconst X dX9_executeProgram_11 12 rfl ?_
  refine v_istore_n X dX9_executeProgram_12 13 rfl rfl (by decide) (L' := [(1, .int (zI 0)), (0, .ref x)]) rfl ?_
  refine V_L (L' := [(1, .int (zI 0)), (0, .ref x)]) (LC rfl (LC rfl rfl)) ?_
  refine up_loop siz.toNat (P := fun (i : Nat) => ∀ (cq : Nat → Int → Int), (exF pr (siz.toNat - i) (i : Int) cq = exF pr siz.toNat 0 co) → (Pk cq) → (OkC cq) → ∀ (H : Heap) (lo : List Loc), MS E [(x, 1), (x + 1, 28), (x + 29, 28)] s H lo → PR E x [(x, .inr (11, [.ref (x + 1), .ref (x + 29), .ref (x + 57), .ref (x + 85), .ref (x + 311), .ref (x + 314), .ref (x + 319), .ref (x + 332), .int (zI hs), .int (zI er), .int (zI fa), .int (zI ss)]))] H → PR E (x + 1) (courtW E (x + 1) cq) H → PR E (x + 29) (courtW E (x + 29) co) H → PR E (x + 85) [(x + 85, .inr (7, [.ref (x + 86), .int (zI nx), .int (zI sz)])), (x + 86, .inl (E 102 3, 8, .inr (.inr (.inr (.inr (hisA (x + 87) 8))))))] H → HF E (x + 87) 8 hc H → PR E (x + 319) [(x + 319, .inr (8, [.ref (x + 320), .int (zI pos), .int (zI siz), .ref (x + 322), .ref (x + 324), .ref (x + 326), .ref (x + 328), .ref (x + 330)]))] H → PR E (x + 322) (prowsW E (x + 322) pr) H → V p l e (rmL 9 0 0) s m args below meth cd Q 7 H lo 0 0 13 [(1, .int (zI (i : Int))), (0, .ref x)] []) (fun i hi_i ih_i cq hex hPq hOq H2 lo2 hM h_cm h_co h_bf h_hi h_hf h_pg h_pr => ?_) co rfl hP0 hO _ _ hM h_cm h_co h_bf h_hi h_hf h_pg h_pr
  refine v_iload_n X dX9_executeProgram_13 14 rfl 0 rfl ?_
  refine v_aload_n X dX9_executeProgram_14 15 rfl 1 rfl ?_
  refine v_getf X hM.C h_cm.1 inX9 0 rfl rfl 6 (by decide) kf_X9_46 (fun _ h => h) rfl dX9_executeProgram_15 18 rfl ?_
  refine v_getfN X hM.C h_pg.1 inX5 0 rfl rfl 2 (by decide) kfn_X9_340 (fun _ h => h) rfl dX9_executeProgram_18 21 rfl ?_
  show V p l e (rmL 9 0 0) s m args below meth cd Q 7 H2 lo2 0 0 21 [(1, .int (zI (i : Int))), (0, .ref x)] [.int (zI siz), .int (zI (i : Int))]
  refine v_icmp_ge X (by omega) (by omega) dX9_executeProgram_21 24 171 rfl (by decide) (fun c_3 => ?_) (fun c_3 => ?_)
  · skip
    have hfin : exF pr siz.toNat 0 co = (0, (i : Int), cq) := by rw [← hex, show siz.toNat - i = 0 by omega]; rfl
    rw [hfin] at hx
    exact absurd rfl hx
  · skip
    refine v_aload_n X dX9_executeProgram_24 25 rfl 1 rfl ?_
    refine v_getf X hM.C h_cm.1 inX9 0 rfl rfl 6 (by decide) kf_X9_46 (fun _ h => h) rfl dX9_executeProgram_25 28 rfl ?_
    refine v_getfN X hM.C h_pg.1 inX5 0 rfl rfl 3 (by decide) kfn_X9_399 (fun _ h => h) rfl dX9_executeProgram_28 31 rfl ?_
    refine v_iload_n X dX9_executeProgram_31 32 rfl 0 rfl ?_
    refine v_rdV X hM.C (PW.part h_pr.1 0 2 (wc := rowW E (x + 322) 8 (pr 1)) rfl) (c_X6_get l E (x + 322) 8 (pr 1) (i : Int) (by omega) (by omega) (by omega)) kvX6_get kiX6_get kl_X9_109 rfl rfl (As := [.int (zI (i : Int))]) rfl rfl rfl dX9_executeProgram_32 35 rfl ?_
    show V p l e (rmL 9 0 0) s m args below meth cd Q 7 H2 lo2 0 0 35 [(1, .int (zI (i : Int))), (0, .ref x)] [.int (zI (pr 1 (i : Int)))]
    have hb_4 := hpr1 (i : Int)
    refine v_istore_n X dX9_executeProgram_35 36 rfl rfl (by decide) (L' := [(2, .int (zI (pr 1 (i : Int)))), (1, .int (zI (i : Int))), (0, .ref x)]) rfl ?_
    refine v_aload_n X dX9_executeProgram_36 37 rfl 2 rfl ?_
    refine v_getf X hM.C h_cm.1 inX9 0 rfl rfl 6 (by decide) kf_X9_46 (fun _ h => h) rfl dX9_executeProgram_37 40 rfl ?_
    refine v_getfN X hM.C h_pg.1 inX5 0 rfl rfl 4 (by decide) kfn_X9_402 (fun _ h => h) rfl dX9_executeProgram_40 43 rfl ?_
    refine v_iload_n X dX9_executeProgram_43 44 rfl 1 rfl ?_
    refine v_rdV X hM.C (PW.part h_pr.1 2 2 (wc := rowW E (x + 324) 8 (pr 2)) rfl) (c_X6_get l E (x + 324) 8 (pr 2) (i : Int) (by omega) (by omega) (by omega)) kvX6_get kiX6_get kl_X9_109 rfl rfl (As := [.int (zI (i : Int))]) rfl rfl rfl dX9_executeProgram_44 47 rfl ?_
    show V p l e (rmL 9 0 0) s m args below meth cd Q 7 H2 lo2 0 0 47 [(2, .int (zI (pr 1 (i : Int)))), (1, .int (zI (i : Int))), (0, .ref x)] [.int (zI (pr 2 (i : Int)))]
    have hb_5 := hpr 2 (i : Int)
    refine v_istore_n X dX9_executeProgram_47 48 rfl rfl (by decide) (L' := [(3, .int (zI (pr 2 (i : Int)))), (2, .int (zI (pr 1 (i : Int)))), (1, .int (zI (i : Int))), (0, .ref x)]) rfl ?_
    refine v_aload_n X dX9_executeProgram_48 49 rfl 3 rfl ?_
    refine v_getf X hM.C h_cm.1 inX9 0 rfl rfl 6 (by decide) kf_X9_46 (fun _ h => h) rfl dX9_executeProgram_49 52 rfl ?_
    refine v_getfN X hM.C h_pg.1 inX5 0 rfl rfl 5 (by decide) kfn_X9_405 (fun _ h => h) rfl dX9_executeProgram_52 55 rfl ?_
    refine v_iload_n X dX9_executeProgram_55 56 rfl 2 rfl ?_
    refine v_rdV X hM.C (PW.part h_pr.1 4 2 (wc := rowW E (x + 326) 8 (pr 3)) rfl) (c_X6_get l E (x + 326) 8 (pr 3) (i : Int) (by omega) (by omega) (by omega)) kvX6_get kiX6_get kl_X9_109 rfl rfl (As := [.int (zI (i : Int))]) rfl rfl rfl dX9_executeProgram_56 59 rfl ?_
    show V p l e (rmL 9 0 0) s m args below meth cd Q 7 H2 lo2 0 0 59 [(3, .int (zI (pr 2 (i : Int)))), (2, .int (zI (pr 1 (i : Int)))), (1, .int (zI (i : Int))), (0, .ref x)] [.int (zI (pr 3 (i : Int)))]
    have hb_6 := hpr 3 (i : Int)
    refine v_istore X dX9_executeProgram_59 61 rfl (by decide) (L' := [(4, .int (zI (pr 3 (i : Int)))), (3, .int (zI (pr 2 (i : Int)))), (2, .int (zI (pr 1 (i : Int)))), (1, .int (zI (i : Int))), (0, .ref x)]) rfl ?_
    refine v_aload_n X dX9_executeProgram_61 62 rfl 4 rfl ?_
    refine v_getf X hM.C h_cm.1 inX9 0 rfl rfl 6 (by decide) kf_X9_46 (fun _ h => h) rfl dX9_executeProgram_62 65 rfl ?_
    refine v_getfN X hM.C h_pg.1 inX5 0 rfl rfl 7 (by decide) kfn_X9_408 (fun _ h => h) rfl dX9_executeProgram_65 68 rfl ?_
    refine v_iload_n X dX9_executeProgram_68 69 rfl 3 rfl ?_
    refine v_rdV X hM.C (PW.part h_pr.1 8 2 (wc := rowW E (x + 330) 8 (pr 5)) rfl) (c_X6_get l E (x + 330) 8 (pr 5) (i : Int) (by omega) (by omega) (by omega)) kvX6_get kiX6_get kl_X9_109 rfl rfl (As := [.int (zI (i : Int))]) rfl rfl rfl dX9_executeProgram_69 72 rfl ?_
    show V p l e (rmL 9 0 0) s m args below meth cd Q 7 H2 lo2 0 0 72 [(4, .int (zI (pr 3 (i : Int)))), (3, .int (zI (pr 2 (i : Int)))), (2, .int (zI (pr 1 (i : Int)))), (1, .int (zI (i : Int))), (0, .ref x)] [.int (zI (pr 5 (i : Int)))]
    have hb_7 := hpr 5 (i : Int)
    refine v_istore X dX9_executeProgram_72 74 rfl (by decide) (L' := [(5, .int (zI (pr 5 (i : Int)))), (4, .int (zI (pr 3 (i : Int)))), (3, .int (zI (pr 2 (i : Int)))), (2, .int (zI (pr 1 (i : Int)))), (1, .int (zI (i : Int))), (0, .ref x)]) rfl ?_
    refine v_aload_n X dX9_executeProgram_74 75 rfl 5 rfl ?_
    refine v_getf X hM.C h_cm.1 inX9 0 rfl rfl 0 (by decide) kf_X9_10 (fun _ h => h) rfl dX9_executeProgram_75 78 rfl ?_
    refine v_iload_n X dX9_executeProgram_78 79 rfl 3 rfl ?_
    refine v_iload_n X dX9_executeProgram_79 80 rfl 2 rfl ?_
    refine v_iload X dX9_executeProgram_80 82 rfl 1 rfl ?_
    refine v_iload X dX9_executeProgram_82 84 rfl 0 rfl ?_
    refine v_rdV X hM.C h_co.1 (c_X0_faultOf l E (x + 1) cq (pr 1 (i : Int)) (pr 2 (i : Int)) (pr 3 (i : Int)) (pr 5 (i : Int)) hOq (by omega) (by omega) (by omega) (by omega)) kvX0_faultOf kiX0_faultOf kl_X9_362 rfl rfl (As := [.int (zI (pr 1 (i : Int))), .int (zI (pr 2 (i : Int))), .int (zI (pr 3 (i : Int))), .int (zI (pr 5 (i : Int)))]) rfl rfl rfl dX9_executeProgram_84 87 rfl ?_
    show V p l e (rmL 9 0 0) s m args below meth cd Q 7 H2 lo2 0 0 87 [(5, .int (zI (pr 5 (i : Int)))), (4, .int (zI (pr 3 (i : Int)))), (3, .int (zI (pr 2 (i : Int)))), (2, .int (zI (pr 1 (i : Int)))), (1, .int (zI (i : Int))), (0, .ref x)] [.ref (E 103 (flC cq (pr 1 (i : Int)) (pr 2 (i : Int)) (pr 3 (i : Int)) (pr 5 (i : Int))))]
    refine v_astore X dX9_executeProgram_87 89 rfl (by decide) (L' := [(6, .ref (E 103 (flC cq (pr 1 (i : Int)) (pr 2 (i : Int)) (pr 3 (i : Int)) (pr 5 (i : Int))))), (5, .int (zI (pr 5 (i : Int)))), (4, .int (zI (pr 3 (i : Int)))), (3, .int (zI (pr 2 (i : Int)))), (2, .int (zI (pr 1 (i : Int)))), (1, .int (zI (i : Int))), (0, .ref x)]) rfl ?_
    refine v_aload X dX9_executeProgram_89 91 rfl 0 rfl ?_
    refine v_flt X hM 0 (by decide) kf_X9_411 dX9_executeProgram_91 94 rfl ?_
    refine v_acmp_eq X dX9_executeProgram_94 97 132 rfl (by decide) (fun c_8 => ?_) (fun c_8 => ?_)
    · skip
      have hfz : flC cq (pr 1 (i : Int)) (pr 2 (i : Int)) (pr 3 (i : Int)) (pr 5 (i : Int)) = 0 := flt_inj hM (flC_b _ _ _ _ _) (by decide) c_8
      refine v_aload_n X dX9_executeProgram_132 133 rfl 6 rfl ?_
      refine v_getf X hM.C h_cm.1 inX9 0 rfl rfl 0 (by decide) kf_X9_10 (fun _ h => h) rfl dX9_executeProgram_133 136 rfl ?_
      refine v_iload_n X dX9_executeProgram_136 137 rfl 4 rfl ?_
      refine v_iload_n X dX9_executeProgram_137 138 rfl 3 rfl ?_
      refine v_iload X dX9_executeProgram_138 140 rfl 2 rfl ?_
      refine v_aload_n X dX9_executeProgram_140 141 rfl 6 rfl ?_
      refine v_getf X hM.C h_cm.1 inX9 0 rfl rfl 6 (by decide) kf_X9_46 (fun _ h => h) rfl dX9_executeProgram_141 144 rfl ?_
      refine v_getfN X hM.C h_pg.1 inX5 0 rfl rfl 6 (by decide) kfn_X9_414 (fun _ h => h) rfl dX9_executeProgram_144 147 rfl ?_
      refine v_iload_n X dX9_executeProgram_147 148 rfl 5 rfl ?_
      refine v_rdV X hM.C (PW.part h_pr.1 6 2 (wc := rowW E (x + 328) 8 (pr 4)) rfl) (c_X6_get l E (x + 328) 8 (pr 4) (i : Int) (by omega) (by omega) (by omega)) kvX6_get kiX6_get kl_X9_109 rfl rfl (As := [.int (zI (i : Int))]) rfl rfl rfl dX9_executeProgram_148 151 rfl ?_
      show V p l e (rmL 9 0 0) s m args below meth cd Q 7 H2 lo2 0 0 151 [(6, .ref (E 103 (flC cq (pr 1 (i : Int)) (pr 2 (i : Int)) (pr 3 (i : Int)) (pr 5 (i : Int))))), (5, .int (zI (pr 5 (i : Int)))), (4, .int (zI (pr 3 (i : Int)))), (3, .int (zI (pr 2 (i : Int)))), (2, .int (zI (pr 1 (i : Int)))), (1, .int (zI (i : Int))), (0, .ref x)] [.int (zI (pr 4 (i : Int))), .int (zI (pr 3 (i : Int))), .int (zI (pr 2 (i : Int))), .int (zI (pr 1 (i : Int))), .ref (x + 1)]
      have hb_9 := hpr 4 (i : Int)
      refine v_if_eq X (by omega) dX9_executeProgram_151 154 158 rfl (by decide) (fun c_10 => ?_) (fun c_10 => ?_)
      · skip
        refine v_iconst X dX9_executeProgram_158 159 rfl ?_
        refine v_iload X dX9_executeProgram_159 161 rfl 1 rfl ?_
        refine v_muV X hM (h_co.1) (c_X0_perform l E (x + 1) cq (pr 1 (i : Int)) (pr 2 (i : Int)) (pr 3 (i : Int)) 0 (pr 5 (i : Int)) hOq (by omega) (by omega) (by omega) (by omega) (by omega) hfz) kvX0_perform kiX0_perform kl_X9_373 (q0 := 0) rfl rfl (As := [.int (zI (pr 1 (i : Int))), .int (zI (pr 2 (i : Int))), .int (zI (pr 3 (i : Int))), .int (zI 0), .int (zI (pr 5 (i : Int)))]) rfl rfl rfl dX9_executeProgram_161 164 rfl (k' := 0) (n' := 0) rfl rfl (fsI (fun q q1 q2 => (Or.inl (fsT (fsH (by omega) (by omega)))))) h_co (fun rv H11 lo11 hM hF hpo => ?_)
        obtain ⟨rfl, hw_0⟩ := hpo
        have h_co : PR E (x + 1) (courtW E (x + 1) (opC cq (pr 1 (i : Int)) (pr 2 (i : Int)) (pr 3 (i : Int)) 0 (pr 5 (i : Int)))) H11 := hw_0
        replace h_cm := h_cm.kept hF 1 rfl (fsd (by omega))
        replace h_bf := h_bf.kept hF 28 rfl (fsd (by omega))
        replace h_hi := h_hi.kept hF 2 rfl (fsd (by omega))
        replace h_hf := h_hf.kept hF (fsd (by omega))
        replace h_pg := h_pg.kept hF 1 rfl (fsd (by omega))
        replace h_pr := h_pr.kept hF 10 rfl (fsd (by omega))
        show V p l e (rmL 9 0 0) s m args below meth cd Q 7 H11 lo11 0 0 164 [(6, .ref (E 103 (flC cq (pr 1 (i : Int)) (pr 2 (i : Int)) (pr 3 (i : Int)) (pr 5 (i : Int))))), (5, .int (zI (pr 5 (i : Int)))), (4, .int (zI (pr 3 (i : Int)))), (3, .int (zI (pr 2 (i : Int)))), (2, .int (zI (pr 1 (i : Int)))), (1, .int (zI (i : Int))), (0, .ref x)] [.int (zI (opV cq (pr 1 (i : Int)) (pr 2 (i : Int)) (pr 3 (i : Int)) 0 (pr 5 (i : Int))))]
        refine v_pop X dX9_executeProgram_164 165 rfl rfl ?_
        refine v_iinc X dX9_executeProgram_165 168 rfl 5 rfl (by decide) (L' := [(1, .int (zI ((i : Int) + 1))), (6, .ref (E 103 (flC cq (pr 1 (i : Int)) (pr 2 (i : Int)) (pr 3 (i : Int)) (pr 5 (i : Int))))), (5, .int (zI (pr 5 (i : Int)))), (4, .int (zI (pr 3 (i : Int)))), (3, .int (zI (pr 2 (i : Int)))), (2, .int (zI (pr 1 (i : Int)))), (0, .ref x)]) rfl ?_
        refine v_goto X dX9_executeProgram_168 13 (by decide) ?_
        refine v_locals [0, 6] (L' := [(1, .int (zI ((i : Int) + 1))), (0, .ref x)]) rfl ?_
        exact V_L (L' := [(1, .int (zI ((i + 1 : Nat) : Int))), (0, .ref x)]) (LC (vz (by omega)) (LC rfl rfl)) (ih_i (by omega) (opC cq (pr 1 (i : Int)) (pr 2 (i : Int)) (pr 3 (i : Int)) 0 (pr 5 (i : Int))) (by rw [← hex, show siz.toNat - i = (siz.toNat - (i + 1)) + 1 by omega, exF_1 hfz (by first | exact bz_t (by omega) | exact bz_f (by omega))]; rfl) (hPs _ _ _ _ _ _ hPq (hpr1 _) (by omega) hfz) (hPO _ (hPs _ _ _ _ _ _ hPq (hpr1 _) (by omega) hfz)) _ _ hM h_cm h_co h_bf h_hi h_hf h_pg h_pr)
      · skip
        refine v_iconst X dX9_executeProgram_154 155 rfl ?_
        refine v_goto X dX9_executeProgram_155 159 (by decide) ?_
        refine v_iload X dX9_executeProgram_159 161 rfl 1 rfl ?_
        refine v_muV X hM (h_co.1) (c_X0_perform l E (x + 1) cq (pr 1 (i : Int)) (pr 2 (i : Int)) (pr 3 (i : Int)) 1 (pr 5 (i : Int)) hOq (by omega) (by omega) (by omega) (by omega) (by omega) hfz) kvX0_perform kiX0_perform kl_X9_373 (q0 := 0) rfl rfl (As := [.int (zI (pr 1 (i : Int))), .int (zI (pr 2 (i : Int))), .int (zI (pr 3 (i : Int))), .int (zI 1), .int (zI (pr 5 (i : Int)))]) rfl rfl rfl dX9_executeProgram_161 164 rfl (k' := 0) (n' := 0) rfl rfl (fsI (fun q q1 q2 => (Or.inl (fsT (fsH (by omega) (by omega)))))) h_co (fun rv H12 lo12 hM hF hpo => ?_)
        obtain ⟨rfl, hw_0⟩ := hpo
        have h_co : PR E (x + 1) (courtW E (x + 1) (opC cq (pr 1 (i : Int)) (pr 2 (i : Int)) (pr 3 (i : Int)) 1 (pr 5 (i : Int)))) H12 := hw_0
        replace h_cm := h_cm.kept hF 1 rfl (fsd (by omega))
        replace h_bf := h_bf.kept hF 28 rfl (fsd (by omega))
        replace h_hi := h_hi.kept hF 2 rfl (fsd (by omega))
        replace h_hf := h_hf.kept hF (fsd (by omega))
        replace h_pg := h_pg.kept hF 1 rfl (fsd (by omega))
        replace h_pr := h_pr.kept hF 10 rfl (fsd (by omega))
        show V p l e (rmL 9 0 0) s m args below meth cd Q 7 H12 lo12 0 0 164 [(6, .ref (E 103 (flC cq (pr 1 (i : Int)) (pr 2 (i : Int)) (pr 3 (i : Int)) (pr 5 (i : Int))))), (5, .int (zI (pr 5 (i : Int)))), (4, .int (zI (pr 3 (i : Int)))), (3, .int (zI (pr 2 (i : Int)))), (2, .int (zI (pr 1 (i : Int)))), (1, .int (zI (i : Int))), (0, .ref x)] [.int (zI (opV cq (pr 1 (i : Int)) (pr 2 (i : Int)) (pr 3 (i : Int)) 1 (pr 5 (i : Int))))]
        refine v_pop X dX9_executeProgram_164 165 rfl rfl ?_
        refine v_iinc X dX9_executeProgram_165 168 rfl 5 rfl (by decide) (L' := [(1, .int (zI ((i : Int) + 1))), (6, .ref (E 103 (flC cq (pr 1 (i : Int)) (pr 2 (i : Int)) (pr 3 (i : Int)) (pr 5 (i : Int))))), (5, .int (zI (pr 5 (i : Int)))), (4, .int (zI (pr 3 (i : Int)))), (3, .int (zI (pr 2 (i : Int)))), (2, .int (zI (pr 1 (i : Int)))), (0, .ref x)]) rfl ?_
        refine v_goto X dX9_executeProgram_168 13 (by decide) ?_
        refine v_locals [0, 6] (L' := [(1, .int (zI ((i : Int) + 1))), (0, .ref x)]) rfl ?_
        exact V_L (L' := [(1, .int (zI ((i + 1 : Nat) : Int))), (0, .ref x)]) (LC (vz (by omega)) (LC rfl rfl)) (ih_i (by omega) (opC cq (pr 1 (i : Int)) (pr 2 (i : Int)) (pr 3 (i : Int)) 1 (pr 5 (i : Int))) (by rw [← hex, show siz.toNat - i = (siz.toNat - (i + 1)) + 1 by omega, exF_1 hfz (by first | exact bz_t (by omega) | exact bz_f (by omega))]; rfl) (hPs _ _ _ _ _ _ hPq (hpr1 _) (by omega) hfz) (hPO _ (hPs _ _ _ _ _ _ hPq (hpr1 _) (by omega) hfz)) _ _ hM h_cm h_co h_bf h_hi h_hf h_pg h_pr)
    · skip
      have hfz : ¬ flC cq (pr 1 (i : Int)) (pr 2 (i : Int)) (pr 3 (i : Int)) (pr 5 (i : Int)) = 0 := fun q => c_8 (by rw [q])
      have hfin : exF pr siz.toNat 0 co = (flC cq (pr 1 (i : Int)) (pr 2 (i : Int)) (pr 3 (i : Int)) (pr 5 (i : Int)), (i : Int), cq) := by rw [← hex, show siz.toNat - i = (siz.toNat - (i + 1)) + 1 by omega]; exact exF_2 hfz
      refine v_aload_n X dX9_executeProgram_97 98 rfl 6 rfl ?_
      refine v_getf X hM.C h_cm.1 inX9 0 rfl rfl 0 (by decide) kf_X9_10 (fun _ h => h) rfl dX9_executeProgram_98 101 rfl ?_
      refine v_aload_n X dX9_executeProgram_101 102 rfl 6 rfl ?_
      refine v_getf X hM.C h_cm.1 inX9 0 rfl rfl 1 (by decide) kf_X9_16 (fun _ h => h) rfl dX9_executeProgram_102 105 rfl ?_
      refine v_muV X hM (h_co.1) (c_X0_copyFrom l E (x + 1) (x + 29) cq co (by omega)) kvX0_copyFrom kiX0_copyFrom kl_X9_354 (q0 := 0) rfl rfl (As := [.ref (x + 29)]) rfl rfl rfl dX9_executeProgram_105 108 rfl (k' := 0) (n' := 0) rfl rfl (fsI (fun q q1 q2 => (Or.inl (fsT (fsH (by omega) (by omega)))))) ⟨h_co, h_bf⟩ (fun rv H13 lo13 hM hF hpo => ?_)
      obtain ⟨rfl, hw_0⟩ := hpo
      have h_co : PR E (x + 1) (courtW E (x + 1) co) H13 := hw_0
      replace h_cm := h_cm.kept hF 1 rfl (fsd (by omega))
      replace h_bf := h_bf.kept hF 28 rfl (fsd (by omega))
      replace h_hi := h_hi.kept hF 2 rfl (fsd (by omega))
      replace h_hf := h_hf.kept hF (fsd (by omega))
      replace h_pg := h_pg.kept hF 1 rfl (fsd (by omega))
      replace h_pr := h_pr.kept hF 10 rfl (fsd (by omega))
      show V p l e (rmL 9 0 0) s m args below meth cd Q 7 H13 lo13 0 0 108 [(6, .ref (E 103 (flC cq (pr 1 (i : Int)) (pr 2 (i : Int)) (pr 3 (i : Int)) (pr 5 (i : Int))))), (5, .int (zI (pr 5 (i : Int)))), (4, .int (zI (pr 3 (i : Int)))), (3, .int (zI (pr 2 (i : Int)))), (2, .int (zI (pr 1 (i : Int)))), (1, .int (zI (i : Int))), (0, .ref x)] []
      refine v_aload_n X dX9_executeProgram_108 109 rfl 6 rfl ?_
      refine v_iload_n X dX9_executeProgram_109 110 rfl 5 rfl ?_
      refine v_putf X hM h_cm ftX9 0 rfl rfl 10 (by decide) kf_X9_65 (fun _ h => h) rfl rfl rfl (Nat.le_of_ble_eq_true rfl) (Or.inl (fsH (by omega) (by omega))) dX9_executeProgram_110 113 rfl (ws' := [(x, .inr (11, [.ref (x + 1), .ref (x + 29), .ref (x + 57), .ref (x + 85), .ref (x + 311), .ref (x + 314), .ref (x + 319), .ref (x + 332), .int (zI hs), .int (zI er), .int (zI (i : Int)), .int (zI ss)]))]) rfl (fun H14 lo14 hzz hM hF h_cm => ?_)
      clear hzz
      replace h_co := h_co.kept hF 28 rfl (fsd (by omega))
      replace h_bf := h_bf.kept hF 28 rfl (fsd (by omega))
      replace h_hi := h_hi.kept hF 2 rfl (fsd (by omega))
      replace h_hf := h_hf.kept hF (fsd (by omega))
      replace h_pg := h_pg.kept hF 1 rfl (fsd (by omega))
      replace h_pr := h_pr.kept hF 10 rfl (fsd (by omega))
      refine v_aload_n X dX9_executeProgram_113 114 rfl 6 rfl ?_
      refine v_aload X dX9_executeProgram_114 116 rfl 0 rfl ?_
      refine v_flt X hM 4 (by decide) kf_X9_394 dX9_executeProgram_116 119 rfl ?_
      refine v_acmp_ne X dX9_executeProgram_119 122 126 rfl (by decide) (fun c_15 => ?_) (fun c_15 => ?_)
      · skip
        have hf4 : ¬ flC cq (pr 1 (i : Int)) (pr 2 (i : Int)) (pr 3 (i : Int)) (pr 5 (i : Int)) = 4 := fun q => c_15 (by rw [q])
        refine v_iconst X dX9_executeProgram_126 127 rfl ?_
        refine v_putf X hM h_cm ftX9 0 rfl rfl 11 (by decide) kf_X9_68 (fun _ h => h) rfl rfl rfl (Nat.le_of_ble_eq_true rfl) (Or.inl (fsH (by omega) (by omega))) dX9_executeProgram_127 130 rfl (ws' := [(x, .inr (11, [.ref (x + 1), .ref (x + 29), .ref (x + 57), .ref (x + 85), .ref (x + 311), .ref (x + 314), .ref (x + 319), .ref (x + 332), .int (zI hs), .int (zI er), .int (zI (i : Int)), .int (zI 0)]))]) rfl (fun H16 lo16 hzz hM hF h_cm => ?_)
        clear hzz
        replace h_co := h_co.kept hF 28 rfl (fsd (by omega))
        replace h_bf := h_bf.kept hF 28 rfl (fsd (by omega))
        replace h_hi := h_hi.kept hF 2 rfl (fsd (by omega))
        replace h_hf := h_hf.kept hF (fsd (by omega))
        replace h_pg := h_pg.kept hF 1 rfl (fsd (by omega))
        replace h_pr := h_pr.kept hF 10 rfl (fsd (by omega))
        refine v_iconst X dX9_executeProgram_130 131 rfl ?_
        subst hQ; exact m_zret X hr hlk hM dX9_executeProgram_131 rfl (by omega) ⟨rfl, (PR.to h_cm (by rw [hfin]; dsimp only; rw [bz_f hf4])), h_co, h_bf⟩
      · skip
        have hf4 : flC cq (pr 1 (i : Int)) (pr 2 (i : Int)) (pr 3 (i : Int)) (pr 5 (i : Int)) = 4 := flt_inj hM (flC_b _ _ _ _ _) (by decide) c_15
        refine v_iconst X dX9_executeProgram_122 123 rfl ?_
        refine v_goto X dX9_executeProgram_123 127 (by decide) ?_
        refine v_putf X hM h_cm ftX9 0 rfl rfl 11 (by decide) kf_X9_68 (fun _ h => h) rfl rfl rfl (Nat.le_of_ble_eq_true rfl) (Or.inl (fsH (by omega) (by omega))) dX9_executeProgram_127 130 rfl (ws' := [(x, .inr (11, [.ref (x + 1), .ref (x + 29), .ref (x + 57), .ref (x + 85), .ref (x + 311), .ref (x + 314), .ref (x + 319), .ref (x + 332), .int (zI hs), .int (zI er), .int (zI (i : Int)), .int (zI 1)]))]) rfl (fun H17 lo17 hzz hM hF h_cm => ?_)
        clear hzz
        replace h_co := h_co.kept hF 28 rfl (fsd (by omega))
        replace h_bf := h_bf.kept hF 28 rfl (fsd (by omega))
        replace h_hi := h_hi.kept hF 2 rfl (fsd (by omega))
        replace h_hf := h_hf.kept hF (fsd (by omega))
        replace h_pg := h_pg.kept hF 1 rfl (fsd (by omega))
        replace h_pr := h_pr.kept hF 10 rfl (fsd (by omega))
        refine v_iconst X dX9_executeProgram_130 131 rfl ?_
        subst hQ; exact m_zret X hr hlk hM dX9_executeProgram_131 rfl (by omega) ⟨rfl, (PR.to h_cm (by rw [hfin]; dsimp only; rw [bz_t hf4])), h_co, h_bf⟩
