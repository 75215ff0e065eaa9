set_option maxHeartbeats 4000000 in
set_option maxRecDepth 20000 in
theorem c_X9_run (l : Launch) (E : Nat → Nat → Nat) (x : Nat) (co : Nat → Int → Int) (hs : Int) (er : Int) (fa : Int) (ss : Int) (bf : Nat → Int → Int) (hc : Nat → Nat → Int → Int) (nx : Int) (sz : Int) (pos : Int) (siz : Int) (pr : Nat → Int → Int) (v : Nat) (N : Nat) (f : Int → Int) (ml : Int) (n : Int) (po : Int) (si : Int) (pq : Nat → Int → Int) (Pk : (Nat → Int → Int) → Prop) (hO : OkC co) (hPO : ∀ c : Nat → Int → Int, Pk c → OkC c) (hPs : ∀ (c : Nat → Int → Int) (kd a y f z : Int), Pk c → (0 ≤ kd ∧ kd ≤ 6) → (0 ≤ f ∧ f ≤ 1) → flC c kd a y z = 0 → Pk (opC c kd a y f z)) (hP0 : Pk co) (hpr1 : ∀ j : Int, 0 ≤ pq 1 j ∧ pq 1 j ≤ 6) (hpr : ∀ (r : Nat) (j : Int), 0 ≤ pq r j ∧ pq r j ≤ 99) (n0 : 0 ≤ nx) (n1 : nx < 8) (s0 : 0 ≤ sz) (s1 : sz ≤ 8) (si0 : 0 ≤ si) (si1 : si ≤ 8) (m0 : 0 ≤ n) (m1 : n ≤ (N : Int)) (N0 : 0 < N) (N1 : N < 1000) (hf : ∀ j : Int, 0 ≤ f j ∧ f j < 128) (n60 : n ≤ 60) (Rp : Rg pos) (Rs : Rg siz) (hpa : paF f n 61 0 0 pr = (1, po, si, pq)) (hx : (exF pq si.toNat 0 co).1 = 0) (hd_cm_co : x + 1 ≤ x + 1 ∨ x + 1 + 28 ≤ x) (hd_cm_bf : x + 1 ≤ x + 29 ∨ x + 29 + 28 ≤ x) (hd_cm_hi : x + 1 ≤ x + 85 ∨ x + 85 + 2 ≤ x) (hd_cm_hf : x + 1 ≤ x + 87 ∨ x + 87 + 224 ≤ x) (hd_cm_pg : x + 1 ≤ x + 319 ∨ x + 319 + 1 ≤ x) (hd_cm_sb : x + 1 ≤ x + 320 ∨ x + 320 + 1 ≤ x) (hd_cm_pr : x + 1 ≤ x + 322 ∨ x + 322 + 10 ≤ x) (hd_co_bf : x + 1 + 28 ≤ x + 29 ∨ x + 29 + 28 ≤ x + 1) (hd_co_hi : x + 1 + 28 ≤ x + 85 ∨ x + 85 + 2 ≤ x + 1) (hd_co_hf : x + 1 + 28 ≤ x + 87 ∨ x + 87 + 224 ≤ x + 1) (hd_co_pg : x + 1 + 28 ≤ x + 319 ∨ x + 319 + 1 ≤ x + 1) (hd_co_sb : x + 1 + 28 ≤ x + 320 ∨ x + 320 + 1 ≤ x + 1) (hd_co_sa : x + 1 + 28 ≤ v ∨ v + 1 ≤ x + 1) (hd_co_pr : x + 1 + 28 ≤ x + 322 ∨ x + 322 + 10 ≤ x + 1) (hd_bf_hi : x + 29 + 28 ≤ x + 85 ∨ x + 85 + 2 ≤ x + 29) (hd_bf_hf : x + 29 + 28 ≤ x + 87 ∨ x + 87 + 224 ≤ x + 29) (hd_bf_pg : x + 29 + 28 ≤ x + 319 ∨ x + 319 + 1 ≤ x + 29) (hd_bf_sb : x + 29 + 28 ≤ x + 320 ∨ x + 320 + 1 ≤ x + 29) (hd_bf_sa : x + 29 + 28 ≤ v ∨ v + 1 ≤ x + 29) (hd_bf_pr : x + 29 + 28 ≤ x + 322 ∨ x + 322 + 10 ≤ x + 29) (hd_hi_hf : x + 85 + 2 ≤ x + 87 ∨ x + 87 + 224 ≤ x + 85) (hd_hi_pg : x + 85 + 2 ≤ x + 319 ∨ x + 319 + 1 ≤ x + 85) (hd_hi_sb : x + 85 + 2 ≤ x + 320 ∨ x + 320 + 1 ≤ x + 85) (hd_hi_sa : x + 85 + 2 ≤ v ∨ v + 1 ≤ x + 85) (hd_hi_pr : x + 85 + 2 ≤ x + 322 ∨ x + 322 + 10 ≤ x + 85) (hd_hf_pg : x + 87 + 224 ≤ x + 319 ∨ x + 319 + 1 ≤ x + 87) (hd_hf_sb : x + 87 + 224 ≤ x + 320 ∨ x + 320 + 1 ≤ x + 87) (hd_hf_sa : x + 87 + 224 ≤ v ∨ v + 1 ≤ x + 87) (hd_hf_pr : x + 87 + 224 ≤ x + 322 ∨ x + 322 + 10 ≤ x + 87) (hd_pg_sb : x + 319 + 1 ≤ x + 320 ∨ x + 320 + 1 ≤ x + 319) (hd_pg_sa : x + 319 + 1 ≤ v ∨ v + 1 ≤ x + 319) (hd_pg_pr : x + 319 + 1 ≤ x + 322 ∨ x + 322 + 10 ≤ x + 319) (hd_sb_sa : x + 320 + 1 ≤ v ∨ v + 1 ≤ x + 320) (hd_sb_pr : x + 320 + 1 ≤ x + 322 ∨ x + 322 + 10 ≤ x + 320) (hd_sa_pr : v + 1 ≤ x + 322 ∨ x + 322 + 10 ≤ v) : Mu l yX9_run cX9_run 2 (some .int) 10 0 0 E [(x + 1, 28), (x + 29, 28), (x + 85, 2), (x + 87, 224), (x + 319, 1), (x + 320, 1), (x + 322, 10)] [.ref x] (fun H => PR E x [(x, .inr (11, [.ref (x + 1), .ref (x + 29), .ref (x + 57), .ref (x + 85), .ref (x + 311), .ref (x + 314), .ref (x + 319), .ref (x + 332), .int (zI hs), .int (zI er), .int (zI fa), .int (zI ss)]))] H ∧ PR E (x + 1) (courtW E (x + 1) co) H ∧ PR E (x + 29) (courtW E (x + 29) bf) H ∧ PR E (x + 85) [(x + 85, .inr (7, [.ref (x + 86), .int (zI nx), .int (zI sz)])), (x + 86, .inl (E 102 3, 8, .inr (.inr (.inr (.inr (hisA (x + 87) 8))))))] H ∧ HF E (x + 87) 8 hc H ∧ PR E (x + 319) [(x + 319, .inr (8, [.ref (x + 320), .int (zI pos), .int (zI siz), .ref (x + 322), .ref (x + 324), .ref (x + 326), .ref (x + 328), .ref (x + 330)]))] H ∧ PR E (x + 320) [(x + 320, .inr (1, [.ref v, .int (zI 0), .int (zI ml), .int (zI n)]))] H ∧ PR E v [(v, .inl (E 102 2, N, .inl (zA f)))] H ∧ PR E (x + 322) (prowsW E (x + 322) pr) H) (fun rv H => rv = some (.int (zI si)) ∧ PR E (x + 1) (courtW E (x + 1) ((exF pq si.toNat 0 co).2.2)) H ∧ PR E (x + 29) (courtW E (x + 29) co) H ∧ PR E (x + 85) [(x + 85, .inr (7, [.ref (x + 86), .int (zI (if nx < 7 then nx + 1 else 0)), .int (zI (min (sz + 1) 8))])), (x + 86, .inl (E 102 3, 8, .inr (.inr (.inr (.inr (hisA (x + 87) 8))))))] H ∧ HF E (x + 87) 8 (fun j => if j = nx.toNat then co else hc j) H ∧ PR E (x + 319) [(x + 319, .inr (8, [.ref (x + 320), .int (zI po), .int (zI si), .ref (x + 322), .ref (x + 324), .ref (x + 326), .ref (x + 328), .ref (x + 330)]))] H ∧ PR E (x + 320) [(x + 320, .inr (1, [.ref v, .int (zI 0), .int (zI (if 0 < n then 1 else ml)), .int (zI 0)]))] H ∧ PR E (x + 322) (prowsW E (x + 322) pq) H) := by
  refine Mu.start (own := RX9) rfl (by decide +kernel) (Nat.le_of_ble_eq_true rfl) ?_
  intro p e s m below meth cd args Q hQ X hr hlk hnm hM hPr
  obtain ⟨h_cm, h_co, h_bf, h_hi, h_hf, h_pg, h_sb, h_sa, h_pr⟩ := hPr
  have hb0 := hO.b0
  have hbw := hO.bw
  refine v_aload_n X dX9_run_0 1 rfl 0 rfl ?_
  refine v_getf X hM.C h_cm.1 inX9 0 rfl rfl 6 (by decide) kf_X9_46 (fun _ h => h) rfl dX9_run_1 4 rfl ?_
  refine v_muV X hM (h_pg.1) (c_X5_parse l E (x + 319) (x + 320) (x + 322) v N f pos siz ml n pr m0 m1 N1 hf n60 Rp Rs (by omega) (by omega) (by omega) (by omega) (by omega)) kvX5_parse kiX5_parse kl_X9_324 (q0 := 0) rfl rfl (As := []) rfl rfl rfl dX9_run_4 7 rfl (k' := 0) (n' := 0) rfl rfl (by intro q hq; simp only [Fr, Fs, or_false, false_or] at hq ⊢; omega) ⟨h_pg, h_sb, h_sa, h_pr⟩ (fun rv H1 lo1 hM hF hpo => ?_)
  obtain ⟨rfl, hw_0, hw_1⟩ := hpo
  have h_pg : PR E (x + 319) [(x + 319, .inr (8, [.ref (x + 320), .int (zI ((paF f n 61 0 0 pr).2.1)), .int (zI ((paF f n 61 0 0 pr).2.2.1)), .ref (x + 322), .ref ((x + 322) + 2), .ref ((x + 322) + 4), .ref ((x + 322) + 6), .ref ((x + 322) + 8)]))] H1 := hw_0
  have h_pr : PR E (x + 322) (prowsW E (x + 322) ((paF f n 61 0 0 pr).2.2.2)) H1 := hw_1
  replace h_cm := h_cm.kept hF 1 rfl (by intro q q1 q2 q3; simp only [Fs, or_false] at q3; omega)
  replace h_co := h_co.kept hF 28 rfl (by intro q q1 q2 q3; simp only [Fs, or_false] at q3; omega)
  replace h_bf := h_bf.kept hF 28 rfl (by intro q q1 q2 q3; simp only [Fs, or_false] at q3; omega)
  replace h_hi := h_hi.kept hF 2 rfl (by intro q q1 q2 q3; simp only [Fs, or_false] at q3; omega)
  replace h_hf := h_hf.kept hF (by intro q q1 q2 q3; simp only [Fs, or_false] at q3; omega)
  replace h_sb := h_sb.kept hF 1 rfl (by intro q q1 q2 q3; simp only [Fs, or_false] at q3; omega)
  replace h_sa := h_sa.kept hF 1 rfl (by intro q q1 q2 q3; simp only [Fs, or_false] at q3; omega)
  show V p l e (rmL 10 0 0) s m args below meth cd Q 2 H1 lo1 0 0 7 [(0, .ref x)] [.int (zI (bz ((paF f n 61 0 0 pr).1 = 1)))]
  rw [hpa] at h_pg h_pr
  replace h_pg : PR E (x + 319) [(x + 319, .inr (8, [.ref (x + 320), .int (zI po), .int (zI si), .ref (x + 322), .ref (x + 324), .ref (x + 326), .ref (x + 328), .ref (x + 330)]))] H1 := h_pg
  replace h_pr : PR E (x + 322) (prowsW E (x + 322) pq) H1 := h_pr
  refine v_istore_n X dX9_run_7 8 rfl rfl (by decide) (L' := [(1, .int (zI (bz ((paF f n 61 0 0 pr).1 = 1)))), (0, .ref x)]) rfl ?_
  refine v_aload_n X dX9_run_8 9 rfl 1 rfl ?_
  refine v_getf X hM.C h_cm.1 inX9 0 rfl rfl 6 (by decide) kf_X9_46 (fun _ h => h) rfl dX9_run_9 12 rfl ?_
  refine v_getfN X hM.C h_pg.1 inX5 0 rfl rfl 0 (by decide) kfn_X9_319 (fun _ h => h) rfl dX9_run_12 15 rfl ?_
  refine v_iconst X dX9_run_15 16 rfl ?_
  refine v_muV X hM (h_sb.1) (c_J4_setLength0 l E (x + 320) v N f ml n m0 (by omega) N0 N1 (by omega)) kvJ4_setLength_d00df kiJ4_setLength_d00df kl_X9_290 (q0 := 0) rfl rfl (As := [.int (zI 0)]) rfl rfl rfl dX9_run_16 19 rfl (k' := 0) (n' := 0) rfl rfl (fsI (fun q q1 q2 => (Or.inl (fsT (fsT (fsT (fsT (fsT (fsH (by omega) (by omega)))))))))) ⟨h_sb, h_sa⟩ (fun rv H2 lo2 hM hF hpo => ?_)
  obtain ⟨rfl, hw_0⟩ := hpo
  have h_sb : PR E (x + 320) [(x + 320, .inr (1, [.ref v, .int (zI 0), .int (zI (if 0 < n then 1 else ml)), .int (zI 0)]))] H2 := hw_0
  replace h_cm := h_cm.kept hF 1 rfl (fsd (by omega))
  replace h_co := h_co.kept hF 28 rfl (fsd (by omega))
  replace h_bf := h_bf.kept hF 28 rfl (fsd (by omega))
  replace h_hi := h_hi.kept hF 2 rfl (fsd (by omega))
  replace h_hf := h_hf.kept hF (fsd (by omega))
  replace h_pg := h_pg.kept hF 1 rfl (fsd (by omega))
  replace h_sa := h_sa.kept hF 1 rfl (fsd (by omega))
  replace h_pr := h_pr.kept hF 10 rfl (fsd (by omega))
  show V p l e (rmL 10 0 0) s m args below meth cd Q 2 H2 lo2 0 0 19 [(1, .int (zI (bz ((paF f n 61 0 0 pr).1 = 1)))), (0, .ref x)] []
  refine v_iload_n X dX9_run_19 20 rfl 0 rfl ?_
  refine v_bif_ne X dX9_run_20 23 45 rfl (by decide) (fun c_3 => ?_) (fun c_3 => ?_)
  · skip
    refine v_aload_n X dX9_run_45 46 rfl 1 rfl ?_
    refine v_muV X hM (h_cm.1) (c_X9_executeProgram_1 l E x co hs er fa ss bf hc nx sz po si pq Pk hO hPO hPs hP0 hpr1 hpr n0 n1 s0 s1 si0 si1 hx hd_cm_co hd_cm_bf hd_cm_hi hd_cm_hf hd_co_bf hd_co_hi hd_co_hf hd_co_pg hd_co_pr hd_bf_hi hd_bf_hf hd_bf_pg hd_bf_pr hd_hi_hf hd_hi_pg hd_hi_pr hd_hf_pg hd_hf_pr) kvX9_executeProgram kiX9_executeProgram kl_X9_332 (q0 := 0) rfl rfl (As := []) rfl rfl rfl dX9_run_46 49 rfl (k' := 0) (n' := 0) rfl rfl (by intro q hq; simp only [Fr, Fs, or_false, false_or] at hq ⊢; omega) ⟨h_cm, h_co, h_bf, h_hi, h_hf, h_pg, h_pr⟩ (fun rv H4 lo4 hM hF hpo => ?_)
    obtain ⟨rfl, hw_0, hw_1, hw_2, hw_3⟩ := hpo
    have h_co : PR E (x + 1) (courtW E (x + 1) ((exF pq si.toNat 0 co).2.2)) H4 := hw_0
    have h_bf : PR E (x + 29) (courtW E (x + 29) co) H4 := hw_1
    have h_hi : PR E (x + 85) [(x + 85, .inr (7, [.ref (x + 86), .int (zI (if nx < 7 then nx + 1 else 0)), .int (zI (min (sz + 1) 8))])), (x + 86, .inl (E 102 3, 8, .inr (.inr (.inr (.inr (hisA (x + 87) 8))))))] H4 := hw_2
    have h_hf : HF E (x + 87) 8 (fun j => if j = nx.toNat then co else hc j) H4 := hw_3
    replace h_cm := h_cm.kept hF 1 rfl (by intro q q1 q2 q3; simp only [Fs, or_false] at q3; omega)
    replace h_pg := h_pg.kept hF 1 rfl (by intro q q1 q2 q3; simp only [Fs, or_false] at q3; omega)
    replace h_sb := h_sb.kept hF 1 rfl (by intro q q1 q2 q3; simp only [Fs, or_false] at q3; omega)
    replace h_sa := h_sa.kept hF 1 rfl (by intro q q1 q2 q3; simp only [Fs, or_false] at q3; omega)
    replace h_pr := h_pr.kept hF 10 rfl (by intro q q1 q2 q3; simp only [Fs, or_false] at q3; omega)
    show V p l e (rmL 10 0 0) s m args below meth cd Q 2 H4 lo4 0 0 49 [(1, .int (zI (bz ((paF f n 61 0 0 pr).1 = 1)))), (0, .ref x)] [.int (zI 1)]
    refine v_if_ne X (by omega) dX9_run_49 52 63 rfl (by decide) (fun c_5 => ?_) (fun c_5 => ?_)
    · skip
      refine v_aload_n X dX9_run_63 64 rfl 1 rfl ?_
      refine v_getf X hM.C h_cm.1 inX9 0 rfl rfl 6 (by decide) kf_X9_46 (fun _ h => h) rfl dX9_run_64 67 rfl ?_
      refine v_getfN X hM.C h_pg.1 inX5 0 rfl rfl 2 (by decide) kfn_X9_340 (fun _ h => h) rfl dX9_run_67 70 rfl ?_
      show V p l e (rmL 10 0 0) s m args below meth cd Q 2 H4 lo4 0 0 70 [(1, .int (zI (bz ((paF f n 61 0 0 pr).1 = 1)))), (0, .ref x)] [.int (zI si)]
      subst hQ; exact m_iret X hr hlk hM dX9_run_70 rfl ⟨rfl, h_co, h_bf, h_hi, h_hf, h_pg, h_sb, h_pr⟩
    · skip
      exfalso; omega
  · skip
    exfalso; rw [hpa] at c_3; exact absurd rfl c_3
set_option maxHeartbeats 4000000 in
set_option maxRecDepth 20000 in
theorem x_X9_run_0 (l : Launch) (hl : l.stackTraces = false) (E : Nat → Nat → Nat) (x : Nat) (co : Nat → Int → Int) (hs : Int) (er : Int) (fa : Int) (ss : Int) (bf : Nat → Int → Int) (hc : Nat → Nat → Int → Int) (nx : Int) (sz : Int) (pos : Int) (siz : Int) (pr : Nat → Int → Int) (v : Nat) (N : Nat) (f : Int → Int) (ml : Int) (n : Int) (po : Int) (si : Int) (pq : Nat → Int → Int) (Pk : (Nat → Int → Int) → Prop) (hO : OkC co) (hPO : ∀ c : Nat → Int → Int, Pk c → OkC c) (hPs : ∀ (c : Nat → Int → Int) (kd a y f z : Int), Pk c → (0 ≤ kd ∧ kd ≤ 6) → (0 ≤ f ∧ f ≤ 1) → flC c kd a y z = 0 → Pk (opC c kd a y f z)) (hP0 : Pk co) (hpr1 : ∀ j : Int, 0 ≤ pq 1 j ∧ pq 1 j ≤ 6) (hpr : ∀ (r : Nat) (j : Int), 0 ≤ pq r j ∧ pq r j ≤ 99) (n0 : 0 ≤ nx) (n1 : nx < 8) (s0 : 0 ≤ sz) (s1 : sz ≤ 8) (si0 : 0 ≤ si) (si1 : si ≤ 8) (m0 : 0 ≤ n) (m1 : n ≤ (N : Int)) (N0 : 0 < N) (N1 : N < 1000) (hf : ∀ j : Int, 0 ≤ f j ∧ f j < 128) (n60 : n ≤ 60) (Rp : Rg pos) (Rs : Rg siz) (hpa : paF f n 61 0 0 pr = (0, po, si, pq)) (hd_cm_co : x + 1 ≤ x + 1 ∨ x + 1 + 28 ≤ x) (hd_cm_bf : x + 1 ≤ x + 29 ∨ x + 29 + 28 ≤ x) (hd_cm_hi : x + 1 ≤ x + 85 ∨ x + 85 + 2 ≤ x) (hd_cm_hf : x + 1 ≤ x + 87 ∨ x + 87 + 224 ≤ x) (hd_cm_pg : x + 1 ≤ x + 319 ∨ x + 319 + 1 ≤ x) (hd_cm_sb : x + 1 ≤ x + 320 ∨ x + 320 + 1 ≤ x) (hd_cm_sa : x + 1 ≤ v ∨ v + 1 ≤ x) (hd_cm_pr : x + 1 ≤ x + 322 ∨ x + 322 + 10 ≤ x) (hd_co_pg : x + 1 + 28 ≤ x + 319 ∨ x + 319 + 1 ≤ x + 1) (hd_co_sb : x + 1 + 28 ≤ x + 320 ∨ x + 320 + 1 ≤ x + 1) (hd_co_pr : x + 1 + 28 ≤ x + 322 ∨ x + 322 + 10 ≤ x + 1) (hd_bf_pg : x + 29 + 28 ≤ x + 319 ∨ x + 319 + 1 ≤ x + 29) (hd_bf_sb : x + 29 + 28 ≤ x + 320 ∨ x + 320 + 1 ≤ x + 29) (hd_bf_pr : x + 29 + 28 ≤ x + 322 ∨ x + 322 + 10 ≤ x + 29) (hd_hi_pg : x + 85 + 2 ≤ x + 319 ∨ x + 319 + 1 ≤ x + 85) (hd_hi_sb : x + 85 + 2 ≤ x + 320 ∨ x + 320 + 1 ≤ x + 85) (hd_hi_pr : x + 85 + 2 ≤ x + 322 ∨ x + 322 + 10 ≤ x + 85) (hd_hf_pg : x + 87 + 224 ≤ x + 319 ∨ x + 319 + 1 ≤ x + 87) (hd_hf_sb : x + 87 + 224 ≤ x + 320 ∨ x + 320 + 1 ≤ x + 87) (hd_hf_pr : x + 87 + 224 ≤ x + 322 ∨ x + 322 + 10 ≤ x + 87) (hd_pg_sb : x + 319 + 1 ≤ x + 320 ∨ x + 320 + 1 ≤ x + 319) (hd_pg_sa : x + 319 + 1 ≤ v ∨ v + 1 ≤ x + 319) (hd_pg_pr : x + 319 + 1 ≤ x + 322 ∨ x + 322 + 10 ≤ x + 319) (hd_sb_sa : x + 320 + 1 ≤ v ∨ v + 1 ≤ x + 320) (hd_sb_pr : x + 320 + 1 ≤ x + 322 ∨ x + 322 + 10 ≤ x + 320) (hd_sa_pr : v + 1 ≤ x + 322 ∨ x + 322 + 10 ≤ v) : Tx l yX9_run cX9_run 2 (some .int) 10 1 6 E [(x, 1), (x + 319, 1), (x + 320, 1), (x + 322, 10)] [.ref x] (fun H => PR E x [(x, .inr (11, [.ref (x + 1), .ref (x + 29), .ref (x + 57), .ref (x + 85), .ref (x + 311), .ref (x + 314), .ref (x + 319), .ref (x + 332), .int (zI hs), .int (zI er), .int (zI fa), .int (zI ss)]))] H ∧ PR E (x + 1) (courtW E (x + 1) co) H ∧ PR E (x + 29) (courtW E (x + 29) bf) H ∧ PR E (x + 85) [(x + 85, .inr (7, [.ref (x + 86), .int (zI nx), .int (zI sz)])), (x + 86, .inl (E 102 3, 8, .inr (.inr (.inr (.inr (hisA (x + 87) 8))))))] H ∧ HF E (x + 87) 8 hc H ∧ PR E (x + 319) [(x + 319, .inr (8, [.ref (x + 320), .int (zI pos), .int (zI siz), .ref (x + 322), .ref (x + 324), .ref (x + 326), .ref (x + 328), .ref (x + 330)]))] H ∧ PR E (x + 320) [(x + 320, .inr (1, [.ref v, .int (zI 0), .int (zI ml), .int (zI n)]))] H ∧ PR E v [(v, .inl (E 102 2, N, .inl (zA f)))] H ∧ PR E (x + 322) (prowsW E (x + 322) pr) H) "java/lang/IllegalArgumentException" (fun H => PR E x [(x, .inr (11, [.ref (x + 1), .ref (x + 29), .ref (x + 57), .ref (x + 85), .ref (x + 311), .ref (x + 314), .ref (x + 319), .ref (x + 332), .int (zI hs), .int (zI po), .int (zI fa), .int (zI ss)]))] H ∧ PR E (x + 319) [(x + 319, .inr (8, [.ref (x + 320), .int (zI po), .int (zI si), .ref (x + 322), .ref (x + 324), .ref (x + 326), .ref (x + 328), .ref (x + 330)]))] H ∧ PR E (x + 320) [(x + 320, .inr (1, [.ref v, .int (zI 0), .int (zI (if 0 < n then 1 else ml)), .int (zI 0)]))] H ∧ PR E (x + 322) (prowsW E (x + 322) pq) H) := by
  refine Tx.start (own := RX9) rfl (by decide +kernel) (Nat.le_of_ble_eq_true rfl) ?_
  intro p e s m below meth cd args Q hQ X tb hlk hM hPr
  obtain ⟨h_cm, h_co, h_bf, h_hi, h_hf, h_pg, h_sb, h_sa, h_pr⟩ := hPr
  have hb0 := hO.b0
  have hbw := hO.bw
  refine v_aload_n X dX9_run_0 1 rfl 0 rfl ?_
  refine v_getf X hM.C h_cm.1 inX9 0 rfl rfl 6 (by decide) kf_X9_46 (fun _ h => h) rfl dX9_run_1 4 rfl ?_
  refine v_muV X hM (h_pg.1) (c_X5_parse l E (x + 319) (x + 320) (x + 322) v N f pos siz ml n pr m0 m1 N1 hf n60 Rp Rs (by omega) (by omega) (by omega) (by omega) (by omega)) kvX5_parse kiX5_parse kl_X9_324 (q0 := 0) rfl rfl (As := []) rfl rfl rfl dX9_run_4 7 rfl (k' := 0) (n' := 0) rfl rfl (by intro q hq; simp only [Fr, Fs, or_false, false_or] at hq ⊢; omega) ⟨h_pg, h_sb, h_sa, h_pr⟩ (fun rv H1 lo1 hM hF hpo => ?_)
  obtain ⟨rfl, hw_0, hw_1⟩ := hpo
  have h_pg : PR E (x + 319) [(x + 319, .inr (8, [.ref (x + 320), .int (zI ((paF f n 61 0 0 pr).2.1)), .int (zI ((paF f n 61 0 0 pr).2.2.1)), .ref (x + 322), .ref ((x + 322) + 2), .ref ((x + 322) + 4), .ref ((x + 322) + 6), .ref ((x + 322) + 8)]))] H1 := hw_0
  have h_pr : PR E (x + 322) (prowsW E (x + 322) ((paF f n 61 0 0 pr).2.2.2)) H1 := hw_1
  replace h_cm := h_cm.kept hF 1 rfl (by intro q q1 q2 q3; simp only [Fs, or_false] at q3; omega)
  replace h_co := h_co.kept hF 28 rfl (by intro q q1 q2 q3; simp only [Fs, or_false] at q3; omega)
  replace h_bf := h_bf.kept hF 28 rfl (by intro q q1 q2 q3; simp only [Fs, or_false] at q3; omega)
  replace h_hi := h_hi.kept hF 2 rfl (by intro q q1 q2 q3; simp only [Fs, or_false] at q3; omega)
  replace h_hf := h_hf.kept hF (by intro q q1 q2 q3; simp only [Fs, or_false] at q3; omega)
  replace h_sb := h_sb.kept hF 1 rfl (by intro q q1 q2 q3; simp only [Fs, or_false] at q3; omega)
  replace h_sa := h_sa.kept hF 1 rfl (by intro q q1 q2 q3; simp only [Fs, or_false] at q3; omega)
  show V p l e (rmL 10 1 6) s m args below meth cd Q 2 H1 lo1 0 0 7 [(0, .ref x)] [.int (zI (bz ((paF f n 61 0 0 pr).1 = 1)))]
  rw [hpa] at h_pg h_pr
  replace h_pg : PR E (x + 319) [(x + 319, .inr (8, [.ref (x + 320), .int (zI po), .int (zI si), .ref (x + 322), .ref (x + 324), .ref (x + 326), .ref (x + 328), .ref (x + 330)]))] H1 := h_pg
  replace h_pr : PR E (x + 322) (prowsW E (x + 322) pq) H1 := h_pr
  refine v_istore_n X dX9_run_7 8 rfl rfl (by decide) (L' := [(1, .int (zI (bz ((paF f n 61 0 0 pr).1 = 1)))), (0, .ref x)]) rfl ?_
  refine v_aload_n X dX9_run_8 9 rfl 1 rfl ?_
  refine v_getf X hM.C h_cm.1 inX9 0 rfl rfl 6 (by decide) kf_X9_46 (fun _ h => h) rfl dX9_run_9 12 rfl ?_
  refine v_getfN X hM.C h_pg.1 inX5 0 rfl rfl 0 (by decide) kfn_X9_319 (fun _ h => h) rfl dX9_run_12 15 rfl ?_
  refine v_iconst X dX9_run_15 16 rfl ?_
  refine v_muV X hM (h_sb.1) (c_J4_setLength0 l E (x + 320) v N f ml n m0 (by omega) N0 N1 (by omega)) kvJ4_setLength_d00df kiJ4_setLength_d00df kl_X9_290 (q0 := 0) rfl rfl (As := [.int (zI 0)]) rfl rfl rfl dX9_run_16 19 rfl (k' := 0) (n' := 0) rfl rfl (fsI (fun q q1 q2 => (Or.inl (fsT (fsT (fsH (by omega) (by omega))))))) ⟨h_sb, h_sa⟩ (fun rv H2 lo2 hM hF hpo => ?_)
  obtain ⟨rfl, hw_0⟩ := hpo
  have h_sb : PR E (x + 320) [(x + 320, .inr (1, [.ref v, .int (zI 0), .int (zI (if 0 < n then 1 else ml)), .int (zI 0)]))] H2 := hw_0
  replace h_cm := h_cm.kept hF 1 rfl (fsd (by omega))
  replace h_co := h_co.kept hF 28 rfl (fsd (by omega))
  replace h_bf := h_bf.kept hF 28 rfl (fsd (by omega))
  replace h_hi := h_hi.kept hF 2 rfl (fsd (by omega))
  replace h_hf := h_hf.kept hF (fsd (by omega))
  replace h_pg := h_pg.kept hF 1 rfl (fsd (by omega))
  replace h_sa := h_sa.kept hF 1 rfl (fsd (by omega))
  replace h_pr := h_pr.kept hF 10 rfl (fsd (by omega))
  show V p l e (rmL 10 1 6) s m args below meth cd Q 2 H2 lo2 0 0 19 [(1, .int (zI (bz ((paF f n 61 0 0 pr).1 = 1)))), (0, .ref x)] []
  refine v_iload_n X dX9_run_19 20 rfl 0 rfl ?_
  refine v_bif_ne X dX9_run_20 23 45 rfl (by decide) (fun c_3 => ?_) (fun c_3 => ?_)
  · skip
    exfalso; rw [hpa] at c_3; exact absurd (show (0 : Int) = 1 from c_3) (by decide)
  · skip
    refine v_aload_n X dX9_run_23 24 rfl 1 rfl ?_
    refine v_aload_n X dX9_run_24 25 rfl 1 rfl ?_
    refine v_getf X hM.C h_cm.1 inX9 0 rfl rfl 6 (by decide) kf_X9_46 (fun _ h => h) rfl dX9_run_25 28 rfl ?_
    refine v_getfN X hM.C h_pg.1 inX5 0 rfl rfl 1 (by decide) kfn_X9_327 (fun _ h => h) rfl dX9_run_28 31 rfl ?_
    show V p l e (rmL 10 1 6) s m args below meth cd Q 2 H2 lo2 0 0 31 [(1, .int (zI (bz ((paF f n 61 0 0 pr).1 = 1)))), (0, .ref x)] [.int (zI po), .ref x]
    refine v_putf X hM h_cm ftX9 0 rfl rfl 9 (by decide) kf_X9_61 (fun _ h => h) rfl rfl rfl (Nat.le_of_ble_eq_true rfl) (Or.inl (fsH (by omega) (by omega))) dX9_run_31 34 rfl (ws' := [(x, .inr (11, [.ref (x + 1), .ref (x + 29), .ref (x + 57), .ref (x + 85), .ref (x + 311), .ref (x + 314), .ref (x + 319), .ref (x + 332), .int (zI hs), .int (zI po), .int (zI fa), .int (zI ss)]))]) rfl (fun H4 lo4 hzz hM hF h_cm => ?_)
    clear hzz
    replace h_co := h_co.kept hF 28 rfl (fsd (by omega))
    replace h_bf := h_bf.kept hF 28 rfl (fsd (by omega))
    replace h_hi := h_hi.kept hF 2 rfl (fsd (by omega))
    replace h_hf := h_hf.kept hF (fsd (by omega))
    replace h_pg := h_pg.kept hF 1 rfl (fsd (by omega))
    replace h_sb := h_sb.kept hF 1 rfl (fsd (by omega))
    replace h_sa := h_sa.kept hF 1 rfl (fsd (by omega))
    replace h_pr := h_pr.kept hF 10 rfl (fsd (by omega))
    subst hQ; exact v_throwW X hl tb hlk hM xt_IAE xk_IAE 29 rfl dX9_run_34 dX9_run_37 dX9_run_38 dX9_run_41 dX9_run_44 rfl (fun H1 hF => ⟨(h_cm.kept hF 1 rfl (fun q _ _ h => h.elim)), (h_pg.kept hF 1 rfl (fun q _ _ h => h.elim)), (h_sb.kept hF 1 rfl (fun q _ _ h => h.elim)), (h_pr.kept hF 10 rfl (fun q _ _ h => h.elim))⟩)
set_option maxHeartbeats 4000000 in
set_option maxRecDepth 20000 in
theorem x_X9_run_1 (l : Launch) (hl : l.stackTraces = false) (E : Nat → Nat → Nat) (x : Nat) (co : Nat → Int → Int) (hs : Int) (er : Int) (fa : Int) (ss : Int) (bf : Nat → Int → Int) (hc : Nat → Nat → Int → Int) (nx : Int) (sz : Int) (pos : Int) (siz : Int) (pr : Nat → Int → Int) (v : Nat) (N : Nat) (f : Int → Int) (ml : Int) (n : Int) (po : Int) (si : Int) (pq : Nat → Int → Int) (Pk : (Nat → Int → Int) → Prop) (hO : OkC co) (hPO : ∀ c : Nat → Int → Int, Pk c → OkC c) (hPs : ∀ (c : Nat → Int → Int) (kd a y f z : Int), Pk c → (0 ≤ kd ∧ kd ≤ 6) → (0 ≤ f ∧ f ≤ 1) → flC c kd a y z = 0 → Pk (opC c kd a y f z)) (hP0 : Pk co) (hpr1 : ∀ j : Int, 0 ≤ pq 1 j ∧ pq 1 j ≤ 6) (hpr : ∀ (r : Nat) (j : Int), 0 ≤ pq r j ∧ pq r j ≤ 99) (n0 : 0 ≤ nx) (n1 : nx < 8) (s0 : 0 ≤ sz) (s1 : sz ≤ 8) (si0 : 0 ≤ si) (si1 : si ≤ 8) (m0 : 0 ≤ n) (m1 : n ≤ (N : Int)) (N0 : 0 < N) (N1 : N < 1000) (hf : ∀ j : Int, 0 ≤ f j ∧ f j < 128) (n60 : n ≤ 60) (Rp : Rg pos) (Rs : Rg siz) (hpa : paF f n 61 0 0 pr = (1, po, si, pq)) (hx : ¬ (exF pq si.toNat 0 co).1 = 0) (hd_cm_co : x + 1 ≤ x + 1 ∨ x + 1 + 28 ≤ x) (hd_cm_bf : x + 1 ≤ x + 29 ∨ x + 29 + 28 ≤ x) (hd_cm_hi : x + 1 ≤ x + 85 ∨ x + 85 + 2 ≤ x) (hd_cm_hf : x + 1 ≤ x + 87 ∨ x + 87 + 224 ≤ x) (hd_cm_pg : x + 1 ≤ x + 319 ∨ x + 319 + 1 ≤ x) (hd_cm_sb : x + 1 ≤ x + 320 ∨ x + 320 + 1 ≤ x) (hd_cm_sa : x + 1 ≤ v ∨ v + 1 ≤ x) (hd_cm_pr : x + 1 ≤ x + 322 ∨ x + 322 + 10 ≤ x) (hd_co_bf : x + 1 + 28 ≤ x + 29 ∨ x + 29 + 28 ≤ x + 1) (hd_co_hi : x + 1 + 28 ≤ x + 85 ∨ x + 85 + 2 ≤ x + 1) (hd_co_hf : x + 1 + 28 ≤ x + 87 ∨ x + 87 + 224 ≤ x + 1) (hd_co_pg : x + 1 + 28 ≤ x + 319 ∨ x + 319 + 1 ≤ x + 1) (hd_co_sb : x + 1 + 28 ≤ x + 320 ∨ x + 320 + 1 ≤ x + 1) (hd_co_sa : x + 1 + 28 ≤ v ∨ v + 1 ≤ x + 1) (hd_co_pr : x + 1 + 28 ≤ x + 322 ∨ x + 322 + 10 ≤ x + 1) (hd_bf_hi : x + 29 + 28 ≤ x + 85 ∨ x + 85 + 2 ≤ x + 29) (hd_bf_hf : x + 29 + 28 ≤ x + 87 ∨ x + 87 + 224 ≤ x + 29) (hd_bf_pg : x + 29 + 28 ≤ x + 319 ∨ x + 319 + 1 ≤ x + 29) (hd_bf_sb : x + 29 + 28 ≤ x + 320 ∨ x + 320 + 1 ≤ x + 29) (hd_bf_sa : x + 29 + 28 ≤ v ∨ v + 1 ≤ x + 29) (hd_bf_pr : x + 29 + 28 ≤ x + 322 ∨ x + 322 + 10 ≤ x + 29) (hd_hi_pg : x + 85 + 2 ≤ x + 319 ∨ x + 319 + 1 ≤ x + 85) (hd_hi_sb : x + 85 + 2 ≤ x + 320 ∨ x + 320 + 1 ≤ x + 85) (hd_hi_pr : x + 85 + 2 ≤ x + 322 ∨ x + 322 + 10 ≤ x + 85) (hd_hf_pg : x + 87 + 224 ≤ x + 319 ∨ x + 319 + 1 ≤ x + 87) (hd_hf_sb : x + 87 + 224 ≤ x + 320 ∨ x + 320 + 1 ≤ x + 87) (hd_hf_pr : x + 87 + 224 ≤ x + 322 ∨ x + 322 + 10 ≤ x + 87) (hd_pg_sb : x + 319 + 1 ≤ x + 320 ∨ x + 320 + 1 ≤ x + 319) (hd_pg_sa : x + 319 + 1 ≤ v ∨ v + 1 ≤ x + 319) (hd_pg_pr : x + 319 + 1 ≤ x + 322 ∨ x + 322 + 10 ≤ x + 319) (hd_sb_sa : x + 320 + 1 ≤ v ∨ v + 1 ≤ x + 320) (hd_sb_pr : x + 320 + 1 ≤ x + 322 ∨ x + 322 + 10 ≤ x + 320) (hd_sa_pr : v + 1 ≤ x + 322 ∨ x + 322 + 10 ≤ v) : Tx l yX9_run cX9_run 2 (some .int) 10 1 6 E [(x, 1), (x + 1, 28), (x + 29, 28), (x + 319, 1), (x + 320, 1), (x + 322, 10)] [.ref x] (fun H => PR E x [(x, .inr (11, [.ref (x + 1), .ref (x + 29), .ref (x + 57), .ref (x + 85), .ref (x + 311), .ref (x + 314), .ref (x + 319), .ref (x + 332), .int (zI hs), .int (zI er), .int (zI fa), .int (zI ss)]))] H ∧ PR E (x + 1) (courtW E (x + 1) co) H ∧ PR E (x + 29) (courtW E (x + 29) bf) H ∧ PR E (x + 85) [(x + 85, .inr (7, [.ref (x + 86), .int (zI nx), .int (zI sz)])), (x + 86, .inl (E 102 3, 8, .inr (.inr (.inr (.inr (hisA (x + 87) 8))))))] H ∧ HF E (x + 87) 8 hc H ∧ PR E (x + 319) [(x + 319, .inr (8, [.ref (x + 320), .int (zI pos), .int (zI siz), .ref (x + 322), .ref (x + 324), .ref (x + 326), .ref (x + 328), .ref (x + 330)]))] H ∧ PR E (x + 320) [(x + 320, .inr (1, [.ref v, .int (zI 0), .int (zI ml), .int (zI n)]))] H ∧ PR E v [(v, .inl (E 102 2, N, .inl (zA f)))] H ∧ PR E (x + 322) (prowsW E (x + 322) pr) H) "java/lang/UnsupportedOperationException" (fun H => PR E x [(x, .inr (11, [.ref (x + 1), .ref (x + 29), .ref (x + 57), .ref (x + 85), .ref (x + 311), .ref (x + 314), .ref (x + 319), .ref (x + 332), .int (zI hs), .int (zI er), .int (zI ((exF pq si.toNat 0 co).2.1)), .int (zI (bz ((exF pq si.toNat 0 co).1 = 4)))]))] H ∧ PR E (x + 1) (courtW E (x + 1) co) H ∧ PR E (x + 29) (courtW E (x + 29) co) H ∧ PR E (x + 319) [(x + 319, .inr (8, [.ref (x + 320), .int (zI po), .int (zI si), .ref (x + 322), .ref (x + 324), .ref (x + 326), .ref (x + 328), .ref (x + 330)]))] H ∧ PR E (x + 320) [(x + 320, .inr (1, [.ref v, .int (zI 0), .int (zI (if 0 < n then 1 else ml)), .int (zI 0)]))] H ∧ PR E (x + 322) (prowsW E (x + 322) pq) H) := by
  refine Tx.start (own := RX9) rfl (by decide +kernel) (Nat.le_of_ble_eq_true rfl) ?_
  intro p e s m below meth cd args Q hQ X tb hlk hM hPr
  obtain ⟨h_cm, h_co, h_bf, h_hi, h_hf, h_pg, h_sb, h_sa, h_pr⟩ := hPr
  have hb0 := hO.b0
  have hbw := hO.bw
  refine v_aload_n X dX9_run_0 1 rfl 0 rfl ?_
  refine v_getf X hM.C h_cm.1 inX9 0 rfl rfl 6 (by decide) kf_X9_46 (fun _ h => h) rfl dX9_run_1 4 rfl ?_
  refine v_muV X hM (h_pg.1) (c_X5_parse l E (x + 319) (x + 320) (x + 322) v N f pos siz ml n pr m0 m1 N1 hf n60 Rp Rs (by omega) (by omega) (by omega) (by omega) (by omega)) kvX5_parse kiX5_parse kl_X9_324 (q0 := 0) rfl rfl (As := []) rfl rfl rfl dX9_run_4 7 rfl (k' := 0) (n' := 0) rfl rfl (by intro q hq; simp only [Fr, Fs, or_false, false_or] at hq ⊢; omega) ⟨h_pg, h_sb, h_sa, h_pr⟩ (fun rv H1 lo1 hM hF hpo => ?_)
  obtain ⟨rfl, hw_0, hw_1⟩ := hpo
  have h_pg : PR E (x + 319) [(x + 319, .inr (8, [.ref (x + 320), .int (zI ((paF f n 61 0 0 pr).2.1)), .int (zI ((paF f n 61 0 0 pr).2.2.1)), .ref (x + 322), .ref ((x + 322) + 2), .ref ((x + 322) + 4), .ref ((x + 322) + 6), .ref ((x + 322) + 8)]))] H1 := hw_0
  have h_pr : PR E (x + 322) (prowsW E (x + 322) ((paF f n 61 0 0 pr).2.2.2)) H1 := hw_1
  replace h_cm := h_cm.kept hF 1 rfl (by intro q q1 q2 q3; simp only [Fs, or_false] at q3; omega)
  replace h_co := h_co.kept hF 28 rfl (by intro q q1 q2 q3; simp only [Fs, or_false] at q3; omega)
  replace h_bf := h_bf.kept hF 28 rfl (by intro q q1 q2 q3; simp only [Fs, or_false] at q3; omega)
  replace h_hi := h_hi.kept hF 2 rfl (by intro q q1 q2 q3; simp only [Fs, or_false] at q3; omega)
  replace h_hf := h_hf.kept hF (by intro q q1 q2 q3; simp only [Fs, or_false] at q3; omega)
  replace h_sb := h_sb.kept hF 1 rfl (by intro q q1 q2 q3; simp only [Fs, or_false] at q3; omega)
  replace h_sa := h_sa.kept hF 1 rfl (by intro q q1 q2 q3; simp only [Fs, or_false] at q3; omega)
  show V p l e (rmL 10 1 6) s m args below meth cd Q 2 H1 lo1 0 0 7 [(0, .ref x)] [.int (zI (bz ((paF f n 61 0 0 pr).1 = 1)))]
  rw [hpa] at h_pg h_pr
  replace h_pg : PR E (x + 319) [(x + 319, .inr (8, [.ref (x + 320), .int (zI po), .int (zI si), .ref (x + 322), .ref (x + 324), .ref (x + 326), .ref (x + 328), .ref (x + 330)]))] H1 := h_pg
  replace h_pr : PR E (x + 322) (prowsW E (x + 322) pq) H1 := h_pr
  refine v_istore_n X dX9_run_7 8 rfl rfl (by decide) (L' := [(1, .int (zI (bz ((paF f n 61 0 0 pr).1 = 1)))), (0, .ref x)]) rfl ?_
  refine v_aload_n X dX9_run_8 9 rfl 1 rfl ?_
  refine v_getf X hM.C h_cm.1 inX9 0 rfl rfl 6 (by decide) kf_X9_46 (fun _ h => h) rfl dX9_run_9 12 rfl ?_
  refine v_getfN X hM.C h_pg.1 inX5 0 rfl rfl 0 (by decide) kfn_X9_319 (fun _ h => h) rfl dX9_run_12 15 rfl ?_
  refine v_iconst X dX9_run_15 16 rfl ?_
  refine v_muV X hM (h_sb.1) (c_J4_setLength0 l E (x + 320) v N f ml n m0 (by omega) N0 N1 (by omega)) kvJ4_setLength_d00df kiJ4_setLength_d00df kl_X9_290 (q0 := 0) rfl rfl (As := [.int (zI 0)]) rfl rfl rfl dX9_run_16 19 rfl (k' := 0) (n' := 0) rfl rfl (fsI (fun q q1 q2 => (Or.inl (fsT (fsT (fsT (fsT (fsH (by omega) (by omega))))))))) ⟨h_sb, h_sa⟩ (fun rv H2 lo2 hM hF hpo => ?_)
  obtain ⟨rfl, hw_0⟩ := hpo
  have h_sb : PR E (x + 320) [(x + 320, .inr (1, [.ref v, .int (zI 0), .int (zI (if 0 < n then 1 else ml)), .int (zI 0)]))] H2 := hw_0
  replace h_cm := h_cm.kept hF 1 rfl (fsd (by omega))
  replace h_co := h_co.kept hF 28 rfl (fsd (by omega))
  replace h_bf := h_bf.kept hF 28 rfl (fsd (by omega))
  replace h_hi := h_hi.kept hF 2 rfl (fsd (by omega))
  replace h_hf := h_hf.kept hF (fsd (by omega))
  replace h_pg := h_pg.kept hF 1 rfl (fsd (by omega))
  replace h_sa := h_sa.kept hF 1 rfl (fsd (by omega))
  replace h_pr := h_pr.kept hF 10 rfl (fsd (by omega))
  show V p l e (rmL 10 1 6) s m args below meth cd Q 2 H2 lo2 0 0 19 [(1, .int (zI (bz ((paF f n 61 0 0 pr).1 = 1)))), (0, .ref x)] []
  refine v_iload_n X dX9_run_19 20 rfl 0 rfl ?_
  refine v_bif_ne X dX9_run_20 23 45 rfl (by decide) (fun c_3 => ?_) (fun c_3 => ?_)
  · skip
    refine v_aload_n X dX9_run_45 46 rfl 1 rfl ?_
    refine v_muV X hM (h_cm.1) (c_X9_executeProgram_0 l E x co hs er fa ss bf hc nx sz po si pq Pk hO hPO hPs hP0 hpr1 hpr n0 n1 s0 s1 si0 si1 hx hd_cm_co hd_cm_bf hd_cm_hi hd_cm_hf hd_cm_pg hd_cm_pr hd_co_bf hd_co_hi hd_co_hf hd_co_pg hd_co_pr hd_bf_hi hd_bf_hf hd_bf_pg hd_bf_pr) kvX9_executeProgram kiX9_executeProgram kl_X9_332 (q0 := 0) rfl rfl (As := []) rfl rfl rfl dX9_run_46 49 rfl (k' := 0) (n' := 0) rfl rfl (by intro q hq; simp only [Fr, Fs, or_false, false_or] at hq ⊢; omega) ⟨h_cm, h_co, h_bf, h_hi, h_hf, h_pg, h_pr⟩ (fun rv H4 lo4 hM hF hpo => ?_)
    obtain ⟨rfl, hw_0, hw_1, hw_2⟩ := hpo
    have h_cm : PR E x [(x, .inr (11, [.ref (x + 1), .ref (x + 29), .ref (x + 57), .ref (x + 85), .ref (x + 311), .ref (x + 314), .ref (x + 319), .ref (x + 332), .int (zI hs), .int (zI er), .int (zI ((exF pq si.toNat 0 co).2.1)), .int (zI (bz ((exF pq si.toNat 0 co).1 = 4)))]))] H4 := hw_0
    have h_co : PR E (x + 1) (courtW E (x + 1) co) H4 := hw_1
    have h_bf : PR E (x + 29) (courtW E (x + 29) co) H4 := hw_2
    replace h_hi := h_hi.kept hF 2 rfl (by intro q q1 q2 q3; simp only [Fs, or_false] at q3; omega)
    replace h_hf := h_hf.kept hF (by intro q q1 q2 q3; simp only [Fs, or_false] at q3; omega)
    replace h_pg := h_pg.kept hF 1 rfl (by intro q q1 q2 q3; simp only [Fs, or_false] at q3; omega)
    replace h_sb := h_sb.kept hF 1 rfl (by intro q q1 q2 q3; simp only [Fs, or_false] at q3; omega)
    replace h_sa := h_sa.kept hF 1 rfl (by intro q q1 q2 q3; simp only [Fs, or_false] at q3; omega)
    replace h_pr := h_pr.kept hF 10 rfl (by intro q q1 q2 q3; simp only [Fs, or_false] at q3; omega)
    show V p l e (rmL 10 1 6) s m args below meth cd Q 2 H4 lo4 0 0 49 [(1, .int (zI (bz ((paF f n 61 0 0 pr).1 = 1)))), (0, .ref x)] [.int (zI 0)]
    refine v_if_ne X (by omega) dX9_run_49 52 63 rfl (by decide) (fun c_5 => ?_) (fun c_5 => ?_)
    · skip
      exfalso; omega
    · skip
      subst hQ; exact v_throwW X hl tb hlk hM xt_UOE xk_UOE 30 rfl dX9_run_52 dX9_run_55 dX9_run_56 dX9_run_59 dX9_run_62 rfl (fun H1 hF => ⟨(h_cm.kept hF 1 rfl (fun q _ _ h => h.elim)), (h_co.kept hF 28 rfl (fun q _ _ h => h.elim)), (h_bf.kept hF 28 rfl (fun q _ _ h => h.elim)), (h_pg.kept hF 1 rfl (fun q _ _ h => h.elim)), (h_sb.kept hF 1 rfl (fun q _ _ h => h.elim)), (h_pr.kept hF 10 rfl (fun q _ _ h => h.elim))⟩)
  · skip
    exfalso; rw [hpa] at c_3; exact absurd rfl c_3
set_option maxHeartbeats 4000000 in
set_option maxRecDepth 20000 in
theorem w_X9_run (l : Launch) (hl : l.stackTraces = false) (E : Nat → Nat → Nat) (x : Nat) (co : Nat → Int → Int) (hs : Int) (er : Int) (fa : Int) (ss : Int) (bf : Nat → Int → Int) (hc : Nat → Nat → Int → Int) (nx : Int) (sz : Int) (pos : Int) (siz : Int) (pr : Nat → Int → Int) (v : Nat) (N : Nat) (f : Int → Int) (ml : Int) (n : Int) (po : Int) (si : Int) (pq : Nat → Int → Int) (Pk : (Nat → Int → Int) → Prop) (oa : Nat) (lg : Nat → Int64) (hO : OkC co) (hPO : ∀ c : Nat → Int → Int, Pk c → OkC c) (hPs : ∀ (c : Nat → Int → Int) (kd a y f z : Int), Pk c → (0 ≤ kd ∧ kd ≤ 6) → (0 ≤ f ∧ f ≤ 1) → flC c kd a y z = 0 → Pk (opC c kd a y f z)) (hP0 : Pk co) (hpr1 : ∀ j : Int, 0 ≤ pq 1 j ∧ pq 1 j ≤ 6) (hpr : ∀ (r : Nat) (j : Int), 0 ≤ pq r j ∧ pq r j ≤ 99) (n0 : 0 ≤ nx) (n1 : nx < 8) (s0 : 0 ≤ sz) (s1 : sz ≤ 8) (si0 : 0 ≤ si) (si1 : si ≤ 8) (m0 : 0 ≤ n) (m1 : n ≤ (N : Int)) (N0 : 0 < N) (N1 : N < 1000) (hf : ∀ j : Int, 0 ≤ f j ∧ f j < 128) (n60 : n ≤ 60) (Rp : Rg pos) (Rs : Rg siz) (hpa : paF f n 61 0 0 pr = (1, po, si, pq)) (hx : (exF pq si.toNat 0 co).1 = 0) (hd_cm_co : x + 1 ≤ x + 1 ∨ x + 1 + 28 ≤ x) (hd_cm_bf : x + 1 ≤ x + 29 ∨ x + 29 + 28 ≤ x) (hd_cm_hi : x + 1 ≤ x + 85 ∨ x + 85 + 2 ≤ x) (hd_cm_hf : x + 1 ≤ x + 87 ∨ x + 87 + 224 ≤ x) (hd_cm_pg : x + 1 ≤ x + 319 ∨ x + 319 + 1 ≤ x) (hd_cm_sb : x + 1 ≤ x + 320 ∨ x + 320 + 1 ≤ x) (hd_cm_pr : x + 1 ≤ x + 322 ∨ x + 322 + 10 ≤ x) (hd_cm_out : x + 1 ≤ oa ∨ oa + 1 ≤ x) (hd_co_bf : x + 1 + 28 ≤ x + 29 ∨ x + 29 + 28 ≤ x + 1) (hd_co_hi : x + 1 + 28 ≤ x + 85 ∨ x + 85 + 2 ≤ x + 1) (hd_co_hf : x + 1 + 28 ≤ x + 87 ∨ x + 87 + 224 ≤ x + 1) (hd_co_pg : x + 1 + 28 ≤ x + 319 ∨ x + 319 + 1 ≤ x + 1) (hd_co_sb : x + 1 + 28 ≤ x + 320 ∨ x + 320 + 1 ≤ x + 1) (hd_co_sa : x + 1 + 28 ≤ v ∨ v + 1 ≤ x + 1) (hd_co_pr : x + 1 + 28 ≤ x + 322 ∨ x + 322 + 10 ≤ x + 1) (hd_co_out : x + 1 + 28 ≤ oa ∨ oa + 1 ≤ x + 1) (hd_bf_hi : x + 29 + 28 ≤ x + 85 ∨ x + 85 + 2 ≤ x + 29) (hd_bf_hf : x + 29 + 28 ≤ x + 87 ∨ x + 87 + 224 ≤ x + 29) (hd_bf_pg : x + 29 + 28 ≤ x + 319 ∨ x + 319 + 1 ≤ x + 29) (hd_bf_sb : x + 29 + 28 ≤ x + 320 ∨ x + 320 + 1 ≤ x + 29) (hd_bf_sa : x + 29 + 28 ≤ v ∨ v + 1 ≤ x + 29) (hd_bf_pr : x + 29 + 28 ≤ x + 322 ∨ x + 322 + 10 ≤ x + 29) (hd_bf_out : x + 29 + 28 ≤ oa ∨ oa + 1 ≤ x + 29) (hd_hi_hf : x + 85 + 2 ≤ x + 87 ∨ x + 87 + 224 ≤ x + 85) (hd_hi_pg : x + 85 + 2 ≤ x + 319 ∨ x + 319 + 1 ≤ x + 85) (hd_hi_sb : x + 85 + 2 ≤ x + 320 ∨ x + 320 + 1 ≤ x + 85) (hd_hi_sa : x + 85 + 2 ≤ v ∨ v + 1 ≤ x + 85) (hd_hi_pr : x + 85 + 2 ≤ x + 322 ∨ x + 322 + 10 ≤ x + 85) (hd_hi_out : x + 85 + 2 ≤ oa ∨ oa + 1 ≤ x + 85) (hd_hf_pg : x + 87 + 224 ≤ x + 319 ∨ x + 319 + 1 ≤ x + 87) (hd_hf_sb : x + 87 + 224 ≤ x + 320 ∨ x + 320 + 1 ≤ x + 87) (hd_hf_sa : x + 87 + 224 ≤ v ∨ v + 1 ≤ x + 87) (hd_hf_pr : x + 87 + 224 ≤ x + 322 ∨ x + 322 + 10 ≤ x + 87) (hd_hf_out : x + 87 + 224 ≤ oa ∨ oa + 1 ≤ x + 87) (hd_pg_sb : x + 319 + 1 ≤ x + 320 ∨ x + 320 + 1 ≤ x + 319) (hd_pg_sa : x + 319 + 1 ≤ v ∨ v + 1 ≤ x + 319) (hd_pg_pr : x + 319 + 1 ≤ x + 322 ∨ x + 322 + 10 ≤ x + 319) (hd_pg_out : x + 319 + 1 ≤ oa ∨ oa + 1 ≤ x + 319) (hd_sb_sa : x + 320 + 1 ≤ v ∨ v + 1 ≤ x + 320) (hd_sb_pr : x + 320 + 1 ≤ x + 322 ∨ x + 322 + 10 ≤ x + 320) (hd_sb_out : x + 320 + 1 ≤ oa ∨ oa + 1 ≤ x + 320) (hd_sa_pr : v + 1 ≤ x + 322 ∨ x + 322 + 10 ≤ v) (hd_sa_out : v + 1 ≤ oa ∨ oa + 1 ≤ v) (hd_pr_out : x + 322 + 10 ≤ oa ∨ oa + 1 ≤ x + 322) : MuW l yL_run cL_run 3 (some .int) [(0, 8, 11, 13), (0, 8, 14, 168)] 11 0 0 E [(x + 1, 28), (x + 29, 28), (x + 85, 2), (x + 87, 224), (x + 319, 1), (x + 320, 1), (x + 322, 10), (oa, 1)] [.ref x, .ref oa] (fun H => PR E x [(x, .inr (11, [.ref (x + 1), .ref (x + 29), .ref (x + 57), .ref (x + 85), .ref (x + 311), .ref (x + 314), .ref (x + 319), .ref (x + 332), .int (zI hs), .int (zI er), .int (zI fa), .int (zI ss)]))] H ∧ PR E (x + 1) (courtW E (x + 1) co) H ∧ PR E (x + 29) (courtW E (x + 29) bf) H ∧ PR E (x + 85) [(x + 85, .inr (7, [.ref (x + 86), .int (zI nx), .int (zI sz)])), (x + 86, .inl (E 102 3, 8, .inr (.inr (.inr (.inr (hisA (x + 87) 8))))))] H ∧ HF E (x + 87) 8 hc H ∧ PR E (x + 319) [(x + 319, .inr (8, [.ref (x + 320), .int (zI pos), .int (zI siz), .ref (x + 322), .ref (x + 324), .ref (x + 326), .ref (x + 328), .ref (x + 330)]))] H ∧ PR E (x + 320) [(x + 320, .inr (1, [.ref v, .int (zI 0), .int (zI ml), .int (zI n)]))] H ∧ PR E v [(v, .inl (E 102 2, N, .inl (zA f)))] H ∧ PR E (x + 322) (prowsW E (x + 322) pr) H ∧ PR E oa [(oa, .inl (E 102 4, 1, .inr (.inl lg)))] H) (fun rv H => rv = some (.int (zI 0)) ∧ PR E (x + 1) (courtW E (x + 1) ((exF pq si.toNat 0 co).2.2)) H ∧ PR E (x + 29) (courtW E (x + 29) co) H ∧ PR E (x + 85) [(x + 85, .inr (7, [.ref (x + 86), .int (zI (if nx < 7 then nx + 1 else 0)), .int (zI (min (sz + 1) 8))])), (x + 86, .inl (E 102 3, 8, .inr (.inr (.inr (.inr (hisA (x + 87) 8))))))] H ∧ HF E (x + 87) 8 (fun j => if j = nx.toNat then co else hc j) H ∧ PR E (x + 319) [(x + 319, .inr (8, [.ref (x + 320), .int (zI po), .int (zI si), .ref (x + 322), .ref (x + 324), .ref (x + 326), .ref (x + 328), .ref (x + 330)]))] H ∧ PR E (x + 320) [(x + 320, .inr (1, [.ref v, .int (zI 0), .int (zI (if 0 < n then 1 else ml)), .int (zI 0)]))] H ∧ PR E (x + 322) (prowsW E (x + 322) pq) H ∧ PR E oa [(oa, .inl (E 102 4, 1, .inr (.inl (fun _ => zL si))))] H) := by
  refine MuW.start (own := RL) rfl (by decide +kernel) (Nat.le_of_ble_eq_true rfl) ?_
  intro p e s m below meth cd args Q hQ X hr hlk htab hM hPr
  obtain ⟨h_cm, h_co, h_bf, h_hi, h_hf, h_pg, h_sb, h_sa, h_pr, h_out⟩ := hPr
  refine v_aload_n X dL_run_0 1 rfl 1 rfl ?_
  refine v_iconst X dL_run_1 2 rfl ?_
  refine v_aload_n X dL_run_2 3 rfl 0 rfl ?_
  refine v_muV X hM (h_cm.1) (c_X9_run l E x co hs er fa ss bf hc nx sz pos siz pr v N f ml n po si pq Pk hO hPO hPs hP0 hpr1 hpr n0 n1 s0 s1 si0 si1 m0 m1 N0 N1 hf n60 Rp Rs hpa hx hd_cm_co hd_cm_bf hd_cm_hi hd_cm_hf hd_cm_pg hd_cm_sb hd_cm_pr hd_co_bf hd_co_hi hd_co_hf hd_co_pg hd_co_sb hd_co_sa hd_co_pr hd_bf_hi hd_bf_hf hd_bf_pg hd_bf_sb hd_bf_sa hd_bf_pr hd_hi_hf hd_hi_pg hd_hi_sb hd_hi_sa hd_hi_pr hd_hf_pg hd_hf_sb hd_hf_sa hd_hf_pr hd_pg_sb hd_pg_sa hd_pg_pr hd_sb_sa hd_sb_pr hd_sa_pr) kvX9_run kiX9_run kl_L_165 (q0 := 0) rfl rfl (As := []) rfl rfl rfl dL_run_3 6 rfl (k' := 0) (n' := 0) rfl rfl (by intro q hq; simp only [Fr, Fs, or_false, false_or] at hq ⊢; omega) ⟨h_cm, h_co, h_bf, h_hi, h_hf, h_pg, h_sb, h_sa, h_pr⟩ (fun rv H1 lo1 hM hF hpo => ?_)
  obtain ⟨rfl, hw_0, hw_1, hw_2, hw_3, hw_4, hw_5, hw_6⟩ := hpo
  have h_co : PR E (x + 1) (courtW E (x + 1) ((exF pq si.toNat 0 co).2.2)) H1 := hw_0
  have h_bf : PR E (x + 29) (courtW E (x + 29) co) H1 := hw_1
  have h_hi : PR E (x + 85) [(x + 85, .inr (7, [.ref (x + 86), .int (zI (if nx < 7 then nx + 1 else 0)), .int (zI (min (sz + 1) 8))])), (x + 86, .inl (E 102 3, 8, .inr (.inr (.inr (.inr (hisA (x + 87) 8))))))] H1 := hw_2
  have h_hf : HF E (x + 87) 8 (fun j => if j = nx.toNat then co else hc j) H1 := hw_3
  have h_pg : PR E (x + 319) [(x + 319, .inr (8, [.ref (x + 320), .int (zI po), .int (zI si), .ref (x + 322), .ref (x + 324), .ref (x + 326), .ref (x + 328), .ref (x + 330)]))] H1 := hw_4
  have h_sb : PR E (x + 320) [(x + 320, .inr (1, [.ref v, .int (zI 0), .int (zI (if 0 < n then 1 else ml)), .int (zI 0)]))] H1 := hw_5
  have h_pr : PR E (x + 322) (prowsW E (x + 322) pq) H1 := hw_6
  replace h_cm := h_cm.kept hF 1 rfl (by intro q q1 q2 q3; simp only [Fs, or_false] at q3; omega)
  replace h_sa := h_sa.kept hF 1 rfl (by intro q q1 q2 q3; simp only [Fs, or_false] at q3; omega)
  replace h_out := h_out.kept hF 1 rfl (by intro q q1 q2 q3; simp only [Fs, or_false] at q3; omega)
  show V p l e (rmL 11 0 0) s m args below meth cd Q 3 H1 lo1 0 0 6 [(0, .ref x), (1, .ref oa)] [.int (zI si), .int (zI 0), .ref oa]
  refine v_i2l X dL_run_6 7 rfl ?_
  refine v_last X hM h_out 0 rfl (Or.inl (fsT (fsT (fsT (fsT (fsT (fsT (fsT (fsH (by omega) (by omega)))))))))) dL_run_7 8 rfl (ws' := [(oa, .inl (E 102 4, 1, .inr (.inl (fun _ => zL si))))]) rfl (fun H2 lo2 hzz hM hF h_out => ?_)
  clear hzz
  replace h_cm := h_cm.kept hF 1 rfl (fsd (by omega))
  replace h_co := h_co.kept hF 28 rfl (fsd (by omega))
  replace h_bf := h_bf.kept hF 28 rfl (fsd (by omega))
  replace h_hi := h_hi.kept hF 2 rfl (fsd (by omega))
  replace h_hf := h_hf.kept hF (fsd (by omega))
  replace h_pg := h_pg.kept hF 1 rfl (fsd (by omega))
  replace h_sb := h_sb.kept hF 1 rfl (fsd (by omega))
  replace h_sa := h_sa.kept hF 1 rfl (fsd (by omega))
  replace h_pr := h_pr.kept hF 10 rfl (fsd (by omega))
  refine v_goto X dL_run_8 17 (by decide) ?_
  refine v_iconst X dL_run_17 18 rfl ?_
  subst hQ; exact m_iret X hr hlk hM dL_run_18 rfl ⟨rfl, h_co, h_bf, h_hi, h_hf, h_pg, h_sb, h_pr, h_out⟩
set_option maxHeartbeats 4000000 in
set_option maxRecDepth 20000 in
theorem w_X9_run_0_t (l : Launch) (hl : l.stackTraces = false) (E : Nat → Nat → Nat) (x : Nat) (co : Nat → Int → Int) (hs : Int) (er : Int) (fa : Int) (ss : Int) (bf : Nat → Int → Int) (hc : Nat → Nat → Int → Int) (nx : Int) (sz : Int) (pos : Int) (siz : Int) (pr : Nat → Int → Int) (v : Nat) (N : Nat) (f : Int → Int) (ml : Int) (n : Int) (po : Int) (si : Int) (pq : Nat → Int → Int) (Pk : (Nat → Int → Int) → Prop) (oa : Nat) (lg : Nat → Int64) (hO : OkC co) (hPO : ∀ c : Nat → Int → Int, Pk c → OkC c) (hPs : ∀ (c : Nat → Int → Int) (kd a y f z : Int), Pk c → (0 ≤ kd ∧ kd ≤ 6) → (0 ≤ f ∧ f ≤ 1) → flC c kd a y z = 0 → Pk (opC c kd a y f z)) (hP0 : Pk co) (hpr1 : ∀ j : Int, 0 ≤ pq 1 j ∧ pq 1 j ≤ 6) (hpr : ∀ (r : Nat) (j : Int), 0 ≤ pq r j ∧ pq r j ≤ 99) (n0 : 0 ≤ nx) (n1 : nx < 8) (s0 : 0 ≤ sz) (s1 : sz ≤ 8) (si0 : 0 ≤ si) (si1 : si ≤ 8) (m0 : 0 ≤ n) (m1 : n ≤ (N : Int)) (N0 : 0 < N) (N1 : N < 1000) (hf : ∀ j : Int, 0 ≤ f j ∧ f j < 128) (n60 : n ≤ 60) (Rp : Rg pos) (Rs : Rg siz) (hpa : paF f n 61 0 0 pr = (0, po, si, pq)) (hd_cm_co : x + 1 ≤ x + 1 ∨ x + 1 + 28 ≤ x) (hd_cm_bf : x + 1 ≤ x + 29 ∨ x + 29 + 28 ≤ x) (hd_cm_hi : x + 1 ≤ x + 85 ∨ x + 85 + 2 ≤ x) (hd_cm_hf : x + 1 ≤ x + 87 ∨ x + 87 + 224 ≤ x) (hd_cm_pg : x + 1 ≤ x + 319 ∨ x + 319 + 1 ≤ x) (hd_cm_sb : x + 1 ≤ x + 320 ∨ x + 320 + 1 ≤ x) (hd_cm_sa : x + 1 ≤ v ∨ v + 1 ≤ x) (hd_cm_pr : x + 1 ≤ x + 322 ∨ x + 322 + 10 ≤ x) (hd_cm_out : x + 1 ≤ oa ∨ oa + 1 ≤ x) (hd_co_pg : x + 1 + 28 ≤ x + 319 ∨ x + 319 + 1 ≤ x + 1) (hd_co_sb : x + 1 + 28 ≤ x + 320 ∨ x + 320 + 1 ≤ x + 1) (hd_co_pr : x + 1 + 28 ≤ x + 322 ∨ x + 322 + 10 ≤ x + 1) (hd_bf_pg : x + 29 + 28 ≤ x + 319 ∨ x + 319 + 1 ≤ x + 29) (hd_bf_sb : x + 29 + 28 ≤ x + 320 ∨ x + 320 + 1 ≤ x + 29) (hd_bf_pr : x + 29 + 28 ≤ x + 322 ∨ x + 322 + 10 ≤ x + 29) (hd_hi_pg : x + 85 + 2 ≤ x + 319 ∨ x + 319 + 1 ≤ x + 85) (hd_hi_sb : x + 85 + 2 ≤ x + 320 ∨ x + 320 + 1 ≤ x + 85) (hd_hi_pr : x + 85 + 2 ≤ x + 322 ∨ x + 322 + 10 ≤ x + 85) (hd_hf_pg : x + 87 + 224 ≤ x + 319 ∨ x + 319 + 1 ≤ x + 87) (hd_hf_sb : x + 87 + 224 ≤ x + 320 ∨ x + 320 + 1 ≤ x + 87) (hd_hf_pr : x + 87 + 224 ≤ x + 322 ∨ x + 322 + 10 ≤ x + 87) (hd_pg_sb : x + 319 + 1 ≤ x + 320 ∨ x + 320 + 1 ≤ x + 319) (hd_pg_sa : x + 319 + 1 ≤ v ∨ v + 1 ≤ x + 319) (hd_pg_pr : x + 319 + 1 ≤ x + 322 ∨ x + 322 + 10 ≤ x + 319) (hd_pg_out : x + 319 + 1 ≤ oa ∨ oa + 1 ≤ x + 319) (hd_sb_sa : x + 320 + 1 ≤ v ∨ v + 1 ≤ x + 320) (hd_sb_pr : x + 320 + 1 ≤ x + 322 ∨ x + 322 + 10 ≤ x + 320) (hd_sb_out : x + 320 + 1 ≤ oa ∨ oa + 1 ≤ x + 320) (hd_sa_pr : v + 1 ≤ x + 322 ∨ x + 322 + 10 ≤ v) (hd_pr_out : x + 322 + 10 ≤ oa ∨ oa + 1 ≤ x + 322) : MuW l yL_run cL_run 3 (some .int) [(0, 8, 11, 13), (0, 8, 14, 168)] 11 1 6 E [(x, 1), (x + 319, 1), (x + 320, 1), (x + 322, 10)] [.ref x, .ref oa] (fun H => PR E x [(x, .inr (11, [.ref (x + 1), .ref (x + 29), .ref (x + 57), .ref (x + 85), .ref (x + 311), .ref (x + 314), .ref (x + 319), .ref (x + 332), .int (zI hs), .int (zI er), .int (zI fa), .int (zI ss)]))] H ∧ PR E (x + 1) (courtW E (x + 1) co) H ∧ PR E (x + 29) (courtW E (x + 29) bf) H ∧ PR E (x + 85) [(x + 85, .inr (7, [.ref (x + 86), .int (zI nx), .int (zI sz)])), (x + 86, .inl (E 102 3, 8, .inr (.inr (.inr (.inr (hisA (x + 87) 8))))))] H ∧ HF E (x + 87) 8 hc H ∧ PR E (x + 319) [(x + 319, .inr (8, [.ref (x + 320), .int (zI pos), .int (zI siz), .ref (x + 322), .ref (x + 324), .ref (x + 326), .ref (x + 328), .ref (x + 330)]))] H ∧ PR E (x + 320) [(x + 320, .inr (1, [.ref v, .int (zI 0), .int (zI ml), .int (zI n)]))] H ∧ PR E v [(v, .inl (E 102 2, N, .inl (zA f)))] H ∧ PR E (x + 322) (prowsW E (x + 322) pr) H ∧ PR E oa [(oa, .inl (E 102 4, 1, .inr (.inl lg)))] H) (fun rv H => rv = some (.int (zI 1)) ∧ PR E x [(x, .inr (11, [.ref (x + 1), .ref (x + 29), .ref (x + 57), .ref (x + 85), .ref (x + 311), .ref (x + 314), .ref (x + 319), .ref (x + 332), .int (zI hs), .int (zI po), .int (zI fa), .int (zI ss)]))] H ∧ PR E (x + 319) [(x + 319, .inr (8, [.ref (x + 320), .int (zI po), .int (zI si), .ref (x + 322), .ref (x + 324), .ref (x + 326), .ref (x + 328), .ref (x + 330)]))] H ∧ PR E (x + 320) [(x + 320, .inr (1, [.ref v, .int (zI 0), .int (zI (if 0 < n then 1 else ml)), .int (zI 0)]))] H ∧ PR E (x + 322) (prowsW E (x + 322) pq) H) := by
  refine MuW.start (own := RL) rfl (by decide +kernel) (Nat.le_of_ble_eq_true rfl) ?_
  intro p e s m below meth cd args Q hQ X hr hlk htab hM hPr
  obtain ⟨h_cm, h_co, h_bf, h_hi, h_hf, h_pg, h_sb, h_sa, h_pr, h_out⟩ := hPr
  refine v_aload_n X dL_run_0 1 rfl 1 rfl ?_
  refine v_iconst X dL_run_1 2 rfl ?_
  refine v_aload_n X dL_run_2 3 rfl 0 rfl ?_
  have hht : HT RL "java/lang/IllegalArgumentException" s [(0, 8, 11, 13), (0, 8, 14, 168)] 3 0 11 := ⟨(0, 8, 11, 13), rfl, rfl, by decide, by decide, xl_L_13, xc_IAE, by
    intro i z hi hz
    omega⟩
  refine v_txC X htab hM (h_cm.1) (x_X9_run_0 l hl E x co hs er fa ss bf hc nx sz pos siz pr v N f ml n po si pq Pk hO hPO hPs hP0 hpr1 hpr n0 n1 s0 s1 si0 si1 m0 m1 N0 N1 hf n60 Rp Rs hpa hd_cm_co hd_cm_bf hd_cm_hi hd_cm_hf hd_cm_pg hd_cm_sb hd_cm_sa hd_cm_pr hd_co_pg hd_co_sb hd_co_pr hd_bf_pg hd_bf_sb hd_bf_pr hd_hi_pg hd_hi_sb hd_hi_pr hd_hf_pg hd_hf_sb hd_hf_pr hd_pg_sb hd_pg_sa hd_pg_pr hd_sb_sa hd_sb_pr hd_sa_pr) kvX9_run kiX9_run kl_L_165 (q0 := 0) rfl rfl (As := []) rfl rfl rfl dL_run_3 0 11 hht (k' := 1) (n' := 6) rfl rfl (by intro q hq; simp only [Fr, Fs, or_false, false_or] at hq ⊢; omega) ⟨h_cm, h_co, h_bf, h_hi, h_hf, h_pg, h_sb, h_sa, h_pr⟩ (fun q9 H1 lo1 hM hF hpo => ?_)
  obtain ⟨hw_0, hw_1, hw_2, hw_3⟩ := hpo
  have h_cm : PR E x [(x, .inr (11, [.ref (x + 1), .ref (x + 29), .ref (x + 57), .ref (x + 85), .ref (x + 311), .ref (x + 314), .ref (x + 319), .ref (x + 332), .int (zI hs), .int (zI po), .int (zI fa), .int (zI ss)]))] H1 := hw_0
  have h_pg : PR E (x + 319) [(x + 319, .inr (8, [.ref (x + 320), .int (zI po), .int (zI si), .ref (x + 322), .ref (x + 324), .ref (x + 326), .ref (x + 328), .ref (x + 330)]))] H1 := hw_1
  have h_sb : PR E (x + 320) [(x + 320, .inr (1, [.ref v, .int (zI 0), .int (zI (if 0 < n then 1 else ml)), .int (zI 0)]))] H1 := hw_2
  have h_pr : PR E (x + 322) (prowsW E (x + 322) pq) H1 := hw_3
  replace h_co := h_co.kept hF 28 rfl (by intro q q1 q2 q3; simp only [Fs, or_false] at q3; omega)
  replace h_bf := h_bf.kept hF 28 rfl (by intro q q1 q2 q3; simp only [Fs, or_false] at q3; omega)
  replace h_hi := h_hi.kept hF 2 rfl (by intro q q1 q2 q3; simp only [Fs, or_false] at q3; omega)
  replace h_hf := h_hf.kept hF (by intro q q1 q2 q3; simp only [Fs, or_false] at q3; omega)
  replace h_sa := h_sa.kept hF 1 rfl (by intro q q1 q2 q3; simp only [Fs, or_false] at q3; omega)
  replace h_out := h_out.kept hF 1 rfl (by intro q q1 q2 q3; simp only [Fs, or_false] at q3; omega)
  show V p l e (rmL 11 1 6) s m args below meth cd Q 3 H1 lo1 1 6 11 [(0, .ref x), (1, .ref oa)] [.ref q9]
  refine v_astore_n X dL_run_11 12 rfl rfl (by decide) (L' := [(2, .ref q9), (0, .ref x), (1, .ref oa)]) rfl ?_
  refine v_iconst X dL_run_12 13 rfl ?_
  subst hQ; exact m_iret X hr hlk hM dL_run_13 rfl ⟨rfl, h_cm, h_pg, h_sb, h_pr⟩
set_option maxHeartbeats 4000000 in
set_option maxRecDepth 20000 in
theorem w_X9_run_1_t (l : Launch) (hl : l.stackTraces = false) (E : Nat → Nat → Nat) (x : Nat) (co : Nat → Int → Int) (hs : Int) (er : Int) (fa : Int) (ss : Int) (bf : Nat → Int → Int) (hc : Nat → Nat → Int → Int) (nx : Int) (sz : Int) (pos : Int) (siz : Int) (pr : Nat → Int → Int) (v : Nat) (N : Nat) (f : Int → Int) (ml : Int) (n : Int) (po : Int) (si : Int) (pq : Nat → Int → Int) (Pk : (Nat → Int → Int) → Prop) (oa : Nat) (lg : Nat → Int64) (hO : OkC co) (hPO : ∀ c : Nat → Int → Int, Pk c → OkC c) (hPs : ∀ (c : Nat → Int → Int) (kd a y f z : Int), Pk c → (0 ≤ kd ∧ kd ≤ 6) → (0 ≤ f ∧ f ≤ 1) → flC c kd a y z = 0 → Pk (opC c kd a y f z)) (hP0 : Pk co) (hpr1 : ∀ j : Int, 0 ≤ pq 1 j ∧ pq 1 j ≤ 6) (hpr : ∀ (r : Nat) (j : Int), 0 ≤ pq r j ∧ pq r j ≤ 99) (n0 : 0 ≤ nx) (n1 : nx < 8) (s0 : 0 ≤ sz) (s1 : sz ≤ 8) (si0 : 0 ≤ si) (si1 : si ≤ 8) (m0 : 0 ≤ n) (m1 : n ≤ (N : Int)) (N0 : 0 < N) (N1 : N < 1000) (hf : ∀ j : Int, 0 ≤ f j ∧ f j < 128) (n60 : n ≤ 60) (Rp : Rg pos) (Rs : Rg siz) (hpa : paF f n 61 0 0 pr = (1, po, si, pq)) (hx : ¬ (exF pq si.toNat 0 co).1 = 0) (hd_cm_co : x + 1 ≤ x + 1 ∨ x + 1 + 28 ≤ x) (hd_cm_bf : x + 1 ≤ x + 29 ∨ x + 29 + 28 ≤ x) (hd_cm_hi : x + 1 ≤ x + 85 ∨ x + 85 + 2 ≤ x) (hd_cm_hf : x + 1 ≤ x + 87 ∨ x + 87 + 224 ≤ x) (hd_cm_pg : x + 1 ≤ x + 319 ∨ x + 319 + 1 ≤ x) (hd_cm_sb : x + 1 ≤ x + 320 ∨ x + 320 + 1 ≤ x) (hd_cm_sa : x + 1 ≤ v ∨ v + 1 ≤ x) (hd_cm_pr : x + 1 ≤ x + 322 ∨ x + 322 + 10 ≤ x) (hd_cm_out : x + 1 ≤ oa ∨ oa + 1 ≤ x) (hd_co_bf : x + 1 + 28 ≤ x + 29 ∨ x + 29 + 28 ≤ x + 1) (hd_co_hi : x + 1 + 28 ≤ x + 85 ∨ x + 85 + 2 ≤ x + 1) (hd_co_hf : x + 1 + 28 ≤ x + 87 ∨ x + 87 + 224 ≤ x + 1) (hd_co_pg : x + 1 + 28 ≤ x + 319 ∨ x + 319 + 1 ≤ x + 1) (hd_co_sb : x + 1 + 28 ≤ x + 320 ∨ x + 320 + 1 ≤ x + 1) (hd_co_sa : x + 1 + 28 ≤ v ∨ v + 1 ≤ x + 1) (hd_co_pr : x + 1 + 28 ≤ x + 322 ∨ x + 322 + 10 ≤ x + 1) (hd_co_out : x + 1 + 28 ≤ oa ∨ oa + 1 ≤ x + 1) (hd_bf_hi : x + 29 + 28 ≤ x + 85 ∨ x + 85 + 2 ≤ x + 29) (hd_bf_hf : x + 29 + 28 ≤ x + 87 ∨ x + 87 + 224 ≤ x + 29) (hd_bf_pg : x + 29 + 28 ≤ x + 319 ∨ x + 319 + 1 ≤ x + 29) (hd_bf_sb : x + 29 + 28 ≤ x + 320 ∨ x + 320 + 1 ≤ x + 29) (hd_bf_sa : x + 29 + 28 ≤ v ∨ v + 1 ≤ x + 29) (hd_bf_pr : x + 29 + 28 ≤ x + 322 ∨ x + 322 + 10 ≤ x + 29) (hd_bf_out : x + 29 + 28 ≤ oa ∨ oa + 1 ≤ x + 29) (hd_hi_pg : x + 85 + 2 ≤ x + 319 ∨ x + 319 + 1 ≤ x + 85) (hd_hi_sb : x + 85 + 2 ≤ x + 320 ∨ x + 320 + 1 ≤ x + 85) (hd_hi_pr : x + 85 + 2 ≤ x + 322 ∨ x + 322 + 10 ≤ x + 85) (hd_hf_pg : x + 87 + 224 ≤ x + 319 ∨ x + 319 + 1 ≤ x + 87) (hd_hf_sb : x + 87 + 224 ≤ x + 320 ∨ x + 320 + 1 ≤ x + 87) (hd_hf_pr : x + 87 + 224 ≤ x + 322 ∨ x + 322 + 10 ≤ x + 87) (hd_pg_sb : x + 319 + 1 ≤ x + 320 ∨ x + 320 + 1 ≤ x + 319) (hd_pg_sa : x + 319 + 1 ≤ v ∨ v + 1 ≤ x + 319) (hd_pg_pr : x + 319 + 1 ≤ x + 322 ∨ x + 322 + 10 ≤ x + 319) (hd_pg_out : x + 319 + 1 ≤ oa ∨ oa + 1 ≤ x + 319) (hd_sb_sa : x + 320 + 1 ≤ v ∨ v + 1 ≤ x + 320) (hd_sb_pr : x + 320 + 1 ≤ x + 322 ∨ x + 322 + 10 ≤ x + 320) (hd_sb_out : x + 320 + 1 ≤ oa ∨ oa + 1 ≤ x + 320) (hd_sa_pr : v + 1 ≤ x + 322 ∨ x + 322 + 10 ≤ v) (hd_pr_out : x + 322 + 10 ≤ oa ∨ oa + 1 ≤ x + 322) : MuW l yL_run cL_run 3 (some .int) [(0, 8, 11, 13), (0, 8, 14, 168)] 11 1 6 E [(x, 1), (x + 1, 28), (x + 29, 28), (x + 319, 1), (x + 320, 1), (x + 322, 10)] [.ref x, .ref oa] (fun H => PR E x [(x, .inr (11, [.ref (x + 1), .ref (x + 29), .ref (x + 57), .ref (x + 85), .ref (x + 311), .ref (x + 314), .ref (x + 319), .ref (x + 332), .int (zI hs), .int (zI er), .int (zI fa), .int (zI ss)]))] H ∧ PR E (x + 1) (courtW E (x + 1) co) H ∧ PR E (x + 29) (courtW E (x + 29) bf) H ∧ PR E (x + 85) [(x + 85, .inr (7, [.ref (x + 86), .int (zI nx), .int (zI sz)])), (x + 86, .inl (E 102 3, 8, .inr (.inr (.inr (.inr (hisA (x + 87) 8))))))] H ∧ HF E (x + 87) 8 hc H ∧ PR E (x + 319) [(x + 319, .inr (8, [.ref (x + 320), .int (zI pos), .int (zI siz), .ref (x + 322), .ref (x + 324), .ref (x + 326), .ref (x + 328), .ref (x + 330)]))] H ∧ PR E (x + 320) [(x + 320, .inr (1, [.ref v, .int (zI 0), .int (zI ml), .int (zI n)]))] H ∧ PR E v [(v, .inl (E 102 2, N, .inl (zA f)))] H ∧ PR E (x + 322) (prowsW E (x + 322) pr) H ∧ PR E oa [(oa, .inl (E 102 4, 1, .inr (.inl lg)))] H) (fun rv H => rv = some (.int (zI 2)) ∧ PR E x [(x, .inr (11, [.ref (x + 1), .ref (x + 29), .ref (x + 57), .ref (x + 85), .ref (x + 311), .ref (x + 314), .ref (x + 319), .ref (x + 332), .int (zI hs), .int (zI er), .int (zI ((exF pq si.toNat 0 co).2.1)), .int (zI (bz ((exF pq si.toNat 0 co).1 = 4)))]))] H ∧ PR E (x + 1) (courtW E (x + 1) co) H ∧ PR E (x + 29) (courtW E (x + 29) co) H ∧ PR E (x + 319) [(x + 319, .inr (8, [.ref (x + 320), .int (zI po), .int (zI si), .ref (x + 322), .ref (x + 324), .ref (x + 326), .ref (x + 328), .ref (x + 330)]))] H ∧ PR E (x + 320) [(x + 320, .inr (1, [.ref v, .int (zI 0), .int (zI (if 0 < n then 1 else ml)), .int (zI 0)]))] H ∧ PR E (x + 322) (prowsW E (x + 322) pq) H) := by
  refine MuW.start (own := RL) rfl (by decide +kernel) (Nat.le_of_ble_eq_true rfl) ?_
  intro p e s m below meth cd args Q hQ X hr hlk htab hM hPr
  obtain ⟨h_cm, h_co, h_bf, h_hi, h_hf, h_pg, h_sb, h_sa, h_pr, h_out⟩ := hPr
  refine v_aload_n X dL_run_0 1 rfl 1 rfl ?_
  refine v_iconst X dL_run_1 2 rfl ?_
  refine v_aload_n X dL_run_2 3 rfl 0 rfl ?_
  have hht : HT RL "java/lang/UnsupportedOperationException" s [(0, 8, 11, 13), (0, 8, 14, 168)] 3 1 14 := ⟨(0, 8, 14, 168), rfl, rfl, by decide, by decide, xl_L_168, xc_UOE, by
    intro i z hi hz
    rcases (show i = 0 by omega) with rfl
    · cases hz; exact ⟨by decide, _, xl_L_13, hM.C.2.2.2.2.2.2.1 5 0 _ _ (by decide) rfl rfl⟩⟩
  refine v_txC X htab hM (h_cm.1) (x_X9_run_1 l hl E x co hs er fa ss bf hc nx sz pos siz pr v N f ml n po si pq Pk hO hPO hPs hP0 hpr1 hpr n0 n1 s0 s1 si0 si1 m0 m1 N0 N1 hf n60 Rp Rs hpa hx hd_cm_co hd_cm_bf hd_cm_hi hd_cm_hf hd_cm_pg hd_cm_sb hd_cm_sa hd_cm_pr hd_co_bf hd_co_hi hd_co_hf hd_co_pg hd_co_sb hd_co_sa hd_co_pr hd_bf_hi hd_bf_hf hd_bf_pg hd_bf_sb hd_bf_sa hd_bf_pr hd_hi_pg hd_hi_sb hd_hi_pr hd_hf_pg hd_hf_sb hd_hf_pr hd_pg_sb hd_pg_sa hd_pg_pr hd_sb_sa hd_sb_pr hd_sa_pr) kvX9_run kiX9_run kl_L_165 (q0 := 0) rfl rfl (As := []) rfl rfl rfl dL_run_3 1 14 hht (k' := 1) (n' := 6) rfl rfl (by intro q hq; simp only [Fr, Fs, or_false, false_or] at hq ⊢; omega) ⟨h_cm, h_co, h_bf, h_hi, h_hf, h_pg, h_sb, h_sa, h_pr⟩ (fun q9 H1 lo1 hM hF hpo => ?_)
  obtain ⟨hw_0, hw_1, hw_2, hw_3, hw_4, hw_5⟩ := hpo
  have h_cm : PR E x [(x, .inr (11, [.ref (x + 1), .ref (x + 29), .ref (x + 57), .ref (x + 85), .ref (x + 311), .ref (x + 314), .ref (x + 319), .ref (x + 332), .int (zI hs), .int (zI er), .int (zI ((exF pq si.toNat 0 co).2.1)), .int (zI (bz ((exF pq si.toNat 0 co).1 = 4)))]))] H1 := hw_0
  have h_co : PR E (x + 1) (courtW E (x + 1) co) H1 := hw_1
  have h_bf : PR E (x + 29) (courtW E (x + 29) co) H1 := hw_2
  have h_pg : PR E (x + 319) [(x + 319, .inr (8, [.ref (x + 320), .int (zI po), .int (zI si), .ref (x + 322), .ref (x + 324), .ref (x + 326), .ref (x + 328), .ref (x + 330)]))] H1 := hw_3
  have h_sb : PR E (x + 320) [(x + 320, .inr (1, [.ref v, .int (zI 0), .int (zI (if 0 < n then 1 else ml)), .int (zI 0)]))] H1 := hw_4
  have h_pr : PR E (x + 322) (prowsW E (x + 322) pq) H1 := hw_5
  replace h_hi := h_hi.kept hF 2 rfl (by intro q q1 q2 q3; simp only [Fs, or_false] at q3; omega)
  replace h_hf := h_hf.kept hF (by intro q q1 q2 q3; simp only [Fs, or_false] at q3; omega)
  replace h_sa := h_sa.kept hF 1 rfl (by intro q q1 q2 q3; simp only [Fs, or_false] at q3; omega)
  replace h_out := h_out.kept hF 1 rfl (by intro q q1 q2 q3; simp only [Fs, or_false] at q3; omega)
  show V p l e (rmL 11 1 6) s m args below meth cd Q 3 H1 lo1 1 6 14 [(0, .ref x), (1, .ref oa)] [.ref q9]
  refine v_astore_n X dL_run_14 15 rfl rfl (by decide) (L' := [(2, .ref q9), (0, .ref x), (1, .ref oa)]) rfl ?_
  refine v_iconst X dL_run_15 16 rfl ?_
  subst hQ; exact m_iret X hr hlk hM dL_run_16 rfl ⟨rfl, h_cm, h_co, h_bf, h_pg, h_sb, h_pr⟩
