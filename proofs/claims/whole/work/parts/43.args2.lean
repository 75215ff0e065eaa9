abbrev arQ (f : Int → Int) (n pos k : Int) : Prop := if k = 0 then chQ f n pos else if k = 2 then teQ f n pos else if k = 3 then quQ f n pos else (48 ≤ sgZ f n pos ∧ sgZ f n pos ≤ 57)
def arP (f : Int → Int) (n pos k : Int) : Int := if k = 0 then chP f n pos else if k = 1 then dgP f n pos else if k = 2 then teP f n pos else if k = 3 then quP f n pos else nuP f n pos
def arC (f : Int → Int) (n pos siz k : Int) (pr : Nat → Int → Int) : Nat → Int → Int := if k = 0 then updC (updC pr 2 (dgG f n pos siz (pr 2))) 3 (chG f n pos siz (pr 3)) else if k = 1 then updC pr 2 (dgG f n pos siz (pr 2)) else if k = 2 then updC (updC (updC (updC pr 2 (nuG f n pos siz (pr 2))) 3 (cwG f n pos siz (pr 3))) 4 (flG f n pos siz 43 (pr 4))) 5 (teG f n pos siz (pr 5)) else if k = 3 then updC (updC (updC pr 2 (nuG f n pos siz (pr 2))) 3 (cwG f n pos siz (pr 3))) 4 (flG f n pos siz 33 (pr 4)) else updC pr 2 (nuG f n pos siz (pr 2))
theorem arP_b (f : Int → Int) (n pos k : Int) : pos ≤ arP f n pos k ∧ arP f n pos k ≤ pos + 6 := by
  have h1 := nuP_b f n pos
  have h2 := cwP_b f n pos
  unfold arP chP dgP teP quP
  repeat' split
  all_goals omega
set_option maxHeartbeats 4000000 in
theorem c_X5_readArguments (l : Launch) (E : Nat → Nat → Nat) (g : Nat) (d : Nat) (r : Nat) (v : Nat) (N : Nat) (f : Int → Int) (pos : Int) (siz : Int) (ml : Int) (n : Int) (pr : Nat → Int → Int) (k : Int) (n0 : 0 ≤ n) (n1 : n ≤ (N : Int)) (N1 : N < 1000) (hf : ∀ j : Int, 0 ≤ f j ∧ f j < 128) (p0 : 0 ≤ pos) (p1 : pos ≤ 1000) (s0 : 0 ≤ siz) (s1 : siz < 8) (p2 : pos ≤ 800) (k0 : 0 ≤ k) (k1 : k < 7) (hd_pg_sb : g + 1 ≤ d ∨ d + 1 ≤ g) (hd_pg_sa : g + 1 ≤ v ∨ v + 1 ≤ g) (hd_pg_pr : g + 1 ≤ r ∨ r + 10 ≤ g) (hd_sb_pr : d + 1 ≤ r ∨ r + 10 ≤ d) (hd_sa_pr : v + 1 ≤ r ∨ r + 10 ≤ v) : Mu l yX5_readArguments cX5_readArguments 2 (some .boolean) 8 0 0 E [(g, 1), (r, 10)] [.ref g, .int (zI k)] (fun H => PR E g [(g, .inr (8, [.ref d, .int (zI pos), .int (zI siz), .ref r, .ref (r + 2), .ref (r + 4), .ref (r + 6), .ref (r + 8)]))] H ∧ PR E d [(d, .inr (1, [.ref v, .int (zI 0), .int (zI ml), .int (zI n)]))] H ∧ PR E v [(v, .inl (E 102 2, N, .inl (zA f)))] H ∧ PR E r (prowsW E r pr) H) (fun rv H => rv = some (.int (zI (bz (arQ f n pos k)))) ∧ PR E g [(g, .inr (8, [.ref d, .int (zI (arP f n pos k)), .int (zI siz), .ref r, .ref (r + 2), .ref (r + 4), .ref (r + 6), .ref (r + 8)]))] H ∧ PR E r (prowsW E r (arC f n pos siz k pr)) H) := by
  rcases (show k = 0 ∨ k = 1 ∨ k = 2 ∨ k = 3 ∨ k = 4 ∨ k = 5 ∨ k = 6 by omega) with q | q | q | q | q | q | q <;> subst q
  · rw [show bz (arQ f n pos 0) = bz (chQ f n pos) from bz_iff (by simp [arQ]), show arP f n pos 0 = chP f n pos from by simp [arP], show arC f n pos siz 0 pr = updC (updC pr 2 (dgG f n pos siz (pr 2))) 3 (chG f n pos siz (pr 3)) from by simp [arC]]; exact c_X5_readArguments_0 l E g d r v N f pos siz ml n pr n0 n1 N1 hf p0 p1 s0 s1 p2 hd_pg_sb hd_pg_sa hd_pg_pr hd_sb_pr hd_sa_pr
  · rw [show bz (arQ f n pos 1) = bz (48 ≤ sgZ f n pos ∧ sgZ f n pos ≤ 57) from bz_iff (by simp [arQ]), show arP f n pos 1 = dgP f n pos from by simp [arP], show arC f n pos siz 1 pr = updC pr 2 (dgG f n pos siz (pr 2)) from by simp [arC]]; exact c_X5_readArguments_1 l E g d r v N f pos siz ml n pr n0 n1 N1 hf p0 p1 s0 s1 p2 hd_pg_sb hd_pg_sa hd_pg_pr hd_sb_pr hd_sa_pr
  · rw [show bz (arQ f n pos 2) = bz (teQ f n pos) from bz_iff (by simp [arQ]), show arP f n pos 2 = teP f n pos from by simp [arP], show arC f n pos siz 2 pr = updC (updC (updC (updC pr 2 (nuG f n pos siz (pr 2))) 3 (cwG f n pos siz (pr 3))) 4 (flG f n pos siz 43 (pr 4))) 5 (teG f n pos siz (pr 5)) from by simp [arC]]; exact c_X5_readArguments_2 l E g d r v N f pos siz ml n pr n0 n1 N1 hf p0 p1 s0 s1 p2 hd_pg_sb hd_pg_sa hd_pg_pr hd_sb_pr hd_sa_pr
  · rw [show bz (arQ f n pos 3) = bz (quQ f n pos) from bz_iff (by simp [arQ]), show arP f n pos 3 = quP f n pos from by simp [arP], show arC f n pos siz 3 pr = updC (updC (updC pr 2 (nuG f n pos siz (pr 2))) 3 (cwG f n pos siz (pr 3))) 4 (flG f n pos siz 33 (pr 4)) from by simp [arC]]; exact c_X5_readArguments_3 l E g d r v N f pos siz ml n pr n0 n1 N1 hf p0 p1 s0 s1 p2 hd_pg_sb hd_pg_sa hd_pg_pr hd_sb_pr hd_sa_pr
  · rw [show bz (arQ f n pos 4) = bz (48 ≤ sgZ f n pos ∧ sgZ f n pos ≤ 57) from bz_iff (by simp [arQ]), show arP f n pos 4 = nuP f n pos from by simp [arP], show arC f n pos siz 4 pr = updC pr 2 (nuG f n pos siz (pr 2)) from by simp [arC]]; exact c_X5_readArguments_4 l E g d r v N f pos siz ml n pr n0 n1 N1 hf p0 p1 s0 s1 p2 hd_pg_sb hd_pg_sa hd_pg_pr hd_sb_pr hd_sa_pr
  · rw [show bz (arQ f n pos 5) = bz (48 ≤ sgZ f n pos ∧ sgZ f n pos ≤ 57) from bz_iff (by simp [arQ]), show arP f n pos 5 = nuP f n pos from by simp [arP], show arC f n pos siz 5 pr = updC pr 2 (nuG f n pos siz (pr 2)) from by simp [arC]]; exact c_X5_readArguments_5 l E g d r v N f pos siz ml n pr n0 n1 N1 hf p0 p1 s0 s1 p2 hd_pg_sb hd_pg_sa hd_pg_pr hd_sb_pr hd_sa_pr
  · rw [show bz (arQ f n pos 6) = bz (48 ≤ sgZ f n pos ∧ sgZ f n pos ≤ 57) from bz_iff (by simp [arQ]), show arP f n pos 6 = nuP f n pos from by simp [arP], show arC f n pos siz 6 pr = updC pr 2 (nuG f n pos siz (pr 2)) from by simp [arC]]; exact c_X5_readArguments_6 l E g d r v N f pos siz ml n pr n0 n1 N1 hf p0 p1 s0 s1 p2 hd_pg_sb hd_pg_sa hd_pg_pr hd_sb_pr hd_sa_pr
set_option maxHeartbeats 4000000 in
set_option maxRecDepth 20000 in
theorem c_X5_init (l : Launch) (E : Nat → Nat → Nat) (b : Nat) : Mu l yX5_init cX5_init 1 none 3 12 65 E [(b, 1)] [.ref b] (fun H => PR E b [(b, .inr (8, [.null, .int 0, .int 0, .null, .null, .null, .null, .null]))] H ∧ H.size = b + 1) (fun rv H => rv = none ∧ PR E b [(b, .inr (8, [.ref (b + 1), .int (zI 0), .int (zI 0), .ref (b + 3), .ref (b + 5), .ref (b + 7), .ref (b + 9), .ref (b + 11)])), (b + 1, .inr (1, [.ref (b + 2), .int (zI 0), .int (zI 0), .int (zI 0)])), (b + 2, .inl (E 102 2, 16, .inl (zA (fun _ => 0)))), (b + 3, .inr (9, [.ref (b + 4)])), (b + 4, .inl (E 102 0, 8, .inl (zA (fun _ => 0)))), (b + 5, .inr (9, [.ref (b + 6)])), (b + 6, .inl (E 102 0, 8, .inl (zA (fun _ => 0)))), (b + 7, .inr (9, [.ref (b + 8)])), (b + 8, .inl (E 102 0, 8, .inl (zA (fun _ => 0)))), (b + 9, .inr (9, [.ref (b + 10)])), (b + 10, .inl (E 102 0, 8, .inl (zA (fun _ => 0)))), (b + 11, .inr (9, [.ref (b + 12)])), (b + 12, .inl (E 102 0, 8, .inl (zA (fun _ => 0))))] H ∧ H.size = b + 13) := by
  refine Mu.start (own := RX5) rfl (by decide +kernel) (Nat.le_of_ble_eq_true rfl) ?_
  intro p e s m below meth cd args Q hQ X hr hlk hnm hM hPr
  obtain ⟨h_pg, hz⟩ := hPr
  have hz0 := hz
  refine v_aload_n X dX5_init_0 1 rfl 0 rfl ?_
  refine v_objinit X kl_X5_3 dX5_init_1 4 rfl rfl ?_
  refine v_aload_n X dX5_init_4 5 rfl 0 rfl ?_
  refine v_new (ci := 1) X hM ftJ4 kc_X5_9 kins_J4 kini_java_lang_StringBuilder rfl dfJ4 rfl dX5_init_5 8 rfl (k' := 1) (n' := 4) rfl rfl (fun o H1 ho hz1 hM hF h_new => ?_)
  obtain rfl : o = b + 1 := ho.trans hz
  replace hz : H1.size = b + 2 := hz1
  clear ho hz1
  have h_n_2 : PR E (b + 1) [(b + 1, .inr (1, [.null, .int 0, .int 0, .int 0]))] H1 := h_new
  replace h_pg := h_pg.kept hF 1 rfl (fun q _ _ h => h.elim)
  refine v_dup X dX5_init_8 9 rfl rfl ?_
  refine v_muI X hM (c_J4_init_da8c8 l E (b + 1)) rfl kvJ4_init_da8c8 kiiJ4_init_da8c8 rfl kl_X5_11 (As := []) rfl rfl rfl dX5_init_9 12 rfl (k' := 2) (n' := 20) rfl rfl (fsI (fun q q1 q2 => (Or.inr (by omega)))) ⟨h_n_2, (by omega)⟩ (fun rv H3 lo3 hM hF hpo => ?_)
  obtain ⟨rfl, hw_0, hz9⟩ := hpo
  clear hz
  have hz := hz9; clear hz9
  replace hz : H3.size = b + 3 := hz
  have h_n_2 : PR E (b + 1) [(b + 1, .inr (1, [.ref ((b + 1) + 1), .int (zI 0), .int (zI 0), .int (zI 0)])), (b + 2, .inl (E 102 2, 16, .inl (zA (fun _ => 0))))] H3 := hw_0
  replace h_pg := h_pg.kept hF 1 rfl (fsd (by omega))
  show V p l e (rmL 3 12 65) s m args below meth cd Q 1 H3 lo3 2 20 12 [(0, .ref b)] [.ref (b + 1), .ref b]
  refine v_putF X hM h_pg ftX5 0 rfl rfl 0 (by decide) kf_X5_12 (fun _ h => h) rfl hnm rfl rfl rfl (Nat.le_of_ble_eq_true rfl) (Or.inl (fsH (by omega) (by omega))) dX5_init_12 15 rfl (ws' := [(b, .inr (8, [.ref (b + 1), .int 0, .int 0, .null, .null, .null, .null, .null]))]) rfl (fun H4 lo4 hzz hM hF h_pg => ?_)
  replace hz : H4.size = b + 3 := hzz.trans hz
  clear hzz
  replace h_n_2 := h_n_2.kept hF 2 rfl (fsd (by omega))
  refine v_aload_n X dX5_init_15 16 rfl 0 rfl ?_
  refine v_iconst X dX5_init_16 17 rfl ?_
  refine v_putf X hM h_pg ftX5 0 rfl rfl 1 (by decide) kf_X5_18 (fun _ h => h) rfl rfl rfl (Nat.le_of_ble_eq_true rfl) (Or.inl (fsH (by omega) (by omega))) dX5_init_17 20 rfl (ws' := [(b, .inr (8, [.ref (b + 1), .int (zI 0), .int 0, .null, .null, .null, .null, .null]))]) rfl (fun H5 lo5 hzz hM hF h_pg => ?_)
  replace hz : H5.size = b + 3 := hzz.trans hz
  clear hzz
  replace h_n_2 := h_n_2.kept hF 2 rfl (fsd (by omega))
  refine v_aload_n X dX5_init_20 21 rfl 0 rfl ?_
  refine v_iconst X dX5_init_21 22 rfl ?_
  refine v_putf X hM h_pg ftX5 0 rfl rfl 2 (by decide) kf_X5_22 (fun _ h => h) rfl rfl rfl (Nat.le_of_ble_eq_true rfl) (Or.inl (fsH (by omega) (by omega))) dX5_init_22 25 rfl (ws' := [(b, .inr (8, [.ref (b + 1), .int (zI 0), .int (zI 0), .null, .null, .null, .null, .null]))]) rfl (fun H6 lo6 hzz hM hF h_pg => ?_)
  replace hz : H6.size = b + 3 := hzz.trans hz
  clear hzz
  replace h_n_2 := h_n_2.kept hF 2 rfl (fsd (by omega))
  refine v_aload_n X dX5_init_25 26 rfl 0 rfl ?_
  refine v_new (ci := 9) X hM ftX6 kc_X5_25 kins_X6 kini_CaseManager_Row rfl dfX6 rfl dX5_init_26 29 rfl (k' := 3) (n' := 21) rfl rfl (fun o H7 ho hz1 hM hF h_new => ?_)
  obtain rfl : o = b + 3 := ho.trans hz
  replace hz : H7.size = b + 4 := hz1
  clear ho hz1
  have h_n_8 : PR E (b + 3) [(b + 3, .inr (9, [.null]))] H7 := h_new
  replace h_pg := h_pg.kept hF 1 rfl (fun q _ _ h => h.elim)
  replace h_n_2 := h_n_2.kept hF 2 rfl (fun q _ _ h => h.elim)
  refine v_dup X dX5_init_29 30 rfl rfl ?_
  refine v_bipush X dX5_init_30 32 rfl rfl ?_
  refine v_muI X hM (c_X6_init8 l E (b + 3)) rfl kvX6_init kiiX6_init rfl kl_X5_27 (As := [.int (zI 8)]) rfl rfl rfl dX5_init_32 35 rfl (k' := 4) (n' := 29) rfl rfl (fsI (fun q q1 q2 => (Or.inr (by omega)))) ⟨h_n_8, (by omega)⟩ (fun rv H9 lo9 hM hF hpo => ?_)
  obtain ⟨rfl, hw_0, hz9⟩ := hpo
  clear hz
  have hz := hz9; clear hz9
  replace hz : H9.size = b + 5 := hz
  have h_n_8 : PR E (b + 3) (rowW E (b + 3) 8 (fun _ => 0)) H9 := hw_0
  replace h_pg := h_pg.kept hF 1 rfl (fsd (by omega))
  replace h_n_2 := h_n_2.kept hF 2 rfl (fsd (by omega))
  show V p l e (rmL 3 12 65) s m args below meth cd Q 1 H9 lo9 4 29 35 [(0, .ref b)] [.ref (b + 3), .ref b]
  refine v_putF X hM h_pg ftX5 0 rfl rfl 3 (by decide) kf_X5_30 (fun _ h => h) rfl hnm rfl rfl rfl (Nat.le_of_ble_eq_true rfl) (Or.inl (fsH (by omega) (by omega))) dX5_init_35 38 rfl (ws' := [(b, .inr (8, [.ref (b + 1), .int (zI 0), .int (zI 0), .ref (b + 3), .null, .null, .null, .null]))]) rfl (fun H10 lo10 hzz hM hF h_pg => ?_)
  replace hz : H10.size = b + 5 := hzz.trans hz
  clear hzz
  replace h_n_2 := h_n_2.kept hF 2 rfl (fsd (by omega))
  replace h_n_8 := h_n_8.kept hF 2 rfl (fsd (by omega))
  refine v_aload_n X dX5_init_38 39 rfl 0 rfl ?_
  refine v_new (ci := 9) X hM ftX6 kc_X5_25 kins_X6 kini_CaseManager_Row rfl dfX6 rfl dX5_init_39 42 rfl (k' := 5) (n' := 30) rfl rfl (fun o H11 ho hz1 hM hF h_new => ?_)
  obtain rfl : o = b + 5 := ho.trans hz
  replace hz : H11.size = b + 6 := hz1
  clear ho hz1
  have h_n_12 : PR E (b + 5) [(b + 5, .inr (9, [.null]))] H11 := h_new
  replace h_pg := h_pg.kept hF 1 rfl (fun q _ _ h => h.elim)
  replace h_n_2 := h_n_2.kept hF 2 rfl (fun q _ _ h => h.elim)
  replace h_n_8 := h_n_8.kept hF 2 rfl (fun q _ _ h => h.elim)
  refine v_dup X dX5_init_42 43 rfl rfl ?_
  refine v_bipush X dX5_init_43 45 rfl rfl ?_
  refine v_muI X hM (c_X6_init8 l E (b + 5)) rfl kvX6_init kiiX6_init rfl kl_X5_27 (As := [.int (zI 8)]) rfl rfl rfl dX5_init_45 48 rfl (k' := 6) (n' := 38) rfl rfl (fsI (fun q q1 q2 => (Or.inr (by omega)))) ⟨h_n_12, (by omega)⟩ (fun rv H13 lo13 hM hF hpo => ?_)
  obtain ⟨rfl, hw_0, hz9⟩ := hpo
  clear hz
  have hz := hz9; clear hz9
  replace hz : H13.size = b + 7 := hz
  have h_n_12 : PR E (b + 5) (rowW E (b + 5) 8 (fun _ => 0)) H13 := hw_0
  replace h_pg := h_pg.kept hF 1 rfl (fsd (by omega))
  replace h_n_2 := h_n_2.kept hF 2 rfl (fsd (by omega))
  replace h_n_8 := h_n_8.kept hF 2 rfl (fsd (by omega))
  show V p l e (rmL 3 12 65) s m args below meth cd Q 1 H13 lo13 6 38 48 [(0, .ref b)] [.ref (b + 5), .ref b]
  refine v_putF X hM h_pg ftX5 0 rfl rfl 4 (by decide) kf_X5_34 (fun _ h => h) rfl hnm rfl rfl rfl (Nat.le_of_ble_eq_true rfl) (Or.inl (fsH (by omega) (by omega))) dX5_init_48 51 rfl (ws' := [(b, .inr (8, [.ref (b + 1), .int (zI 0), .int (zI 0), .ref (b + 3), .ref (b + 5), .null, .null, .null]))]) rfl (fun H14 lo14 hzz hM hF h_pg => ?_)
  replace hz : H14.size = b + 7 := hzz.trans hz
  clear hzz
  replace h_n_2 := h_n_2.kept hF 2 rfl (fsd (by omega))
  replace h_n_8 := h_n_8.kept hF 2 rfl (fsd (by omega))
  replace h_n_12 := h_n_12.kept hF 2 rfl (fsd (by omega))
  refine v_aload_n X dX5_init_51 52 rfl 0 rfl ?_
  refine v_new (ci := 9) X hM ftX6 kc_X5_25 kins_X6 kini_CaseManager_Row rfl dfX6 rfl dX5_init_52 55 rfl (k' := 7) (n' := 39) rfl rfl (fun o H15 ho hz1 hM hF h_new => ?_)
  obtain rfl : o = b + 7 := ho.trans hz
  replace hz : H15.size = b + 8 := hz1
  clear ho hz1
  have h_n_16 : PR E (b + 7) [(b + 7, .inr (9, [.null]))] H15 := h_new
  replace h_pg := h_pg.kept hF 1 rfl (fun q _ _ h => h.elim)
  replace h_n_2 := h_n_2.kept hF 2 rfl (fun q _ _ h => h.elim)
  replace h_n_8 := h_n_8.kept hF 2 rfl (fun q _ _ h => h.elim)
  replace h_n_12 := h_n_12.kept hF 2 rfl (fun q _ _ h => h.elim)
  refine v_dup X dX5_init_55 56 rfl rfl ?_
  refine v_bipush X dX5_init_56 58 rfl rfl ?_
  refine v_muI X hM (c_X6_init8 l E (b + 7)) rfl kvX6_init kiiX6_init rfl kl_X5_27 (As := [.int (zI 8)]) rfl rfl rfl dX5_init_58 61 rfl (k' := 8) (n' := 47) rfl rfl (fsI (fun q q1 q2 => (Or.inr (by omega)))) ⟨h_n_16, (by omega)⟩ (fun rv H17 lo17 hM hF hpo => ?_)
  obtain ⟨rfl, hw_0, hz9⟩ := hpo
  clear hz
  have hz := hz9; clear hz9
  replace hz : H17.size = b + 9 := hz
  have h_n_16 : PR E (b + 7) (rowW E (b + 7) 8 (fun _ => 0)) H17 := hw_0
  replace h_pg := h_pg.kept hF 1 rfl (fsd (by omega))
  replace h_n_2 := h_n_2.kept hF 2 rfl (fsd (by omega))
  replace h_n_8 := h_n_8.kept hF 2 rfl (fsd (by omega))
  replace h_n_12 := h_n_12.kept hF 2 rfl (fsd (by omega))
  show V p l e (rmL 3 12 65) s m args below meth cd Q 1 H17 lo17 8 47 61 [(0, .ref b)] [.ref (b + 7), .ref b]
  refine v_putF X hM h_pg ftX5 0 rfl rfl 5 (by decide) kf_X5_37 (fun _ h => h) rfl hnm rfl rfl rfl (Nat.le_of_ble_eq_true rfl) (Or.inl (fsH (by omega) (by omega))) dX5_init_61 64 rfl (ws' := [(b, .inr (8, [.ref (b + 1), .int (zI 0), .int (zI 0), .ref (b + 3), .ref (b + 5), .ref (b + 7), .null, .null]))]) rfl (fun H18 lo18 hzz hM hF h_pg => ?_)
  replace hz : H18.size = b + 9 := hzz.trans hz
  clear hzz
  replace h_n_2 := h_n_2.kept hF 2 rfl (fsd (by omega))
  replace h_n_8 := h_n_8.kept hF 2 rfl (fsd (by omega))
  replace h_n_12 := h_n_12.kept hF 2 rfl (fsd (by omega))
  replace h_n_16 := h_n_16.kept hF 2 rfl (fsd (by omega))
  refine v_aload_n X dX5_init_64 65 rfl 0 rfl ?_
  refine v_new (ci := 9) X hM ftX6 kc_X5_25 kins_X6 kini_CaseManager_Row rfl dfX6 rfl dX5_init_65 68 rfl (k' := 9) (n' := 48) rfl rfl (fun o H19 ho hz1 hM hF h_new => ?_)
  obtain rfl : o = b + 9 := ho.trans hz
  replace hz : H19.size = b + 10 := hz1
  clear ho hz1
  have h_n_20 : PR E (b + 9) [(b + 9, .inr (9, [.null]))] H19 := h_new
  replace h_pg := h_pg.kept hF 1 rfl (fun q _ _ h => h.elim)
  replace h_n_2 := h_n_2.kept hF 2 rfl (fun q _ _ h => h.elim)
  replace h_n_8 := h_n_8.kept hF 2 rfl (fun q _ _ h => h.elim)
  replace h_n_12 := h_n_12.kept hF 2 rfl (fun q _ _ h => h.elim)
  replace h_n_16 := h_n_16.kept hF 2 rfl (fun q _ _ h => h.elim)
  refine v_dup X dX5_init_68 69 rfl rfl ?_
  refine v_bipush X dX5_init_69 71 rfl rfl ?_
  refine v_muI X hM (c_X6_init8 l E (b + 9)) rfl kvX6_init kiiX6_init rfl kl_X5_27 (As := [.int (zI 8)]) rfl rfl rfl dX5_init_71 74 rfl (k' := 10) (n' := 56) rfl rfl (fsI (fun q q1 q2 => (Or.inr (by omega)))) ⟨h_n_20, (by omega)⟩ (fun rv H21 lo21 hM hF hpo => ?_)
  obtain ⟨rfl, hw_0, hz9⟩ := hpo
  clear hz
  have hz := hz9; clear hz9
  replace hz : H21.size = b + 11 := hz
  have h_n_20 : PR E (b + 9) (rowW E (b + 9) 8 (fun _ => 0)) H21 := hw_0
  replace h_pg := h_pg.kept hF 1 rfl (fsd (by omega))
  replace h_n_2 := h_n_2.kept hF 2 rfl (fsd (by omega))
  replace h_n_8 := h_n_8.kept hF 2 rfl (fsd (by omega))
  replace h_n_12 := h_n_12.kept hF 2 rfl (fsd (by omega))
  replace h_n_16 := h_n_16.kept hF 2 rfl (fsd (by omega))
  show V p l e (rmL 3 12 65) s m args below meth cd Q 1 H21 lo21 10 56 74 [(0, .ref b)] [.ref (b + 9), .ref b]
  refine v_putF X hM h_pg ftX5 0 rfl rfl 6 (by decide) kf_X5_40 (fun _ h => h) rfl hnm rfl rfl rfl (Nat.le_of_ble_eq_true rfl) (Or.inl (fsH (by omega) (by omega))) dX5_init_74 77 rfl (ws' := [(b, .inr (8, [.ref (b + 1), .int (zI 0), .int (zI 0), .ref (b + 3), .ref (b + 5), .ref (b + 7), .ref (b + 9), .null]))]) rfl (fun H22 lo22 hzz hM hF h_pg => ?_)
  replace hz : H22.size = b + 11 := hzz.trans hz
  clear hzz
  replace h_n_2 := h_n_2.kept hF 2 rfl (fsd (by omega))
  replace h_n_8 := h_n_8.kept hF 2 rfl (fsd (by omega))
  replace h_n_12 := h_n_12.kept hF 2 rfl (fsd (by omega))
  replace h_n_16 := h_n_16.kept hF 2 rfl (fsd (by omega))
  replace h_n_20 := h_n_20.kept hF 2 rfl (fsd (by omega))
  refine v_aload_n X dX5_init_77 78 rfl 0 rfl ?_
  refine v_new (ci := 9) X hM ftX6 kc_X5_25 kins_X6 kini_CaseManager_Row rfl dfX6 rfl dX5_init_78 81 rfl (k' := 11) (n' := 57) rfl rfl (fun o H23 ho hz1 hM hF h_new => ?_)
  obtain rfl : o = b + 11 := ho.trans hz
  replace hz : H23.size = b + 12 := hz1
  clear ho hz1
  have h_n_24 : PR E (b + 11) [(b + 11, .inr (9, [.null]))] H23 := h_new
  replace h_pg := h_pg.kept hF 1 rfl (fun q _ _ h => h.elim)
  replace h_n_2 := h_n_2.kept hF 2 rfl (fun q _ _ h => h.elim)
  replace h_n_8 := h_n_8.kept hF 2 rfl (fun q _ _ h => h.elim)
  replace h_n_12 := h_n_12.kept hF 2 rfl (fun q _ _ h => h.elim)
  replace h_n_16 := h_n_16.kept hF 2 rfl (fun q _ _ h => h.elim)
  replace h_n_20 := h_n_20.kept hF 2 rfl (fun q _ _ h => h.elim)
  refine v_dup X dX5_init_81 82 rfl rfl ?_
  refine v_bipush X dX5_init_82 84 rfl rfl ?_
  refine v_muI X hM (c_X6_init8 l E (b + 11)) rfl kvX6_init kiiX6_init rfl kl_X5_27 (As := [.int (zI 8)]) rfl rfl rfl dX5_init_84 87 rfl (k' := 12) (n' := 65) rfl rfl (fsI (fun q q1 q2 => (Or.inr (by omega)))) ⟨h_n_24, (by omega)⟩ (fun rv H25 lo25 hM hF hpo => ?_)
  obtain ⟨rfl, hw_0, hz9⟩ := hpo
  clear hz
  have hz := hz9; clear hz9
  replace hz : H25.size = b + 13 := hz
  have h_n_24 : PR E (b + 11) (rowW E (b + 11) 8 (fun _ => 0)) H25 := hw_0
  replace h_pg := h_pg.kept hF 1 rfl (fsd (by omega))
  replace h_n_2 := h_n_2.kept hF 2 rfl (fsd (by omega))
  replace h_n_8 := h_n_8.kept hF 2 rfl (fsd (by omega))
  replace h_n_12 := h_n_12.kept hF 2 rfl (fsd (by omega))
  replace h_n_16 := h_n_16.kept hF 2 rfl (fsd (by omega))
  replace h_n_20 := h_n_20.kept hF 2 rfl (fsd (by omega))
  show V p l e (rmL 3 12 65) s m args below meth cd Q 1 H25 lo25 12 65 87 [(0, .ref b)] [.ref (b + 11), .ref b]
  refine v_putF X hM h_pg ftX5 0 rfl rfl 7 (by decide) kf_X5_43 (fun _ h => h) rfl hnm rfl rfl rfl (Nat.le_of_ble_eq_true rfl) (Or.inl (fsH (by omega) (by omega))) dX5_init_87 90 rfl (ws' := [(b, .inr (8, [.ref (b + 1), .int (zI 0), .int (zI 0), .ref (b + 3), .ref (b + 5), .ref (b + 7), .ref (b + 9), .ref (b + 11)]))]) rfl (fun H26 lo26 hzz hM hF h_pg => ?_)
  replace hz : H26.size = b + 13 := hzz.trans hz
  clear hzz
  replace h_n_2 := h_n_2.kept hF 2 rfl (fsd (by omega))
  replace h_n_8 := h_n_8.kept hF 2 rfl (fsd (by omega))
  replace h_n_12 := h_n_12.kept hF 2 rfl (fsd (by omega))
  replace h_n_16 := h_n_16.kept hF 2 rfl (fsd (by omega))
  replace h_n_20 := h_n_20.kept hF 2 rfl (fsd (by omega))
  replace h_n_24 := h_n_24.kept hF 2 rfl (fsd (by omega))
  subst hQ; exact m_vret X hr hlk hM dX5_init_90 rfl ⟨rfl, ((((((h_pg.app2 1 rfl rfl h_n_2 rfl).app2 3 rfl rfl h_n_8 rfl).app2 5 rfl rfl h_n_12 rfl).app2 7 rfl rfl h_n_16 rfl).app2 9 rfl rfl h_n_20 rfl).app2 11 rfl rfl h_n_24 rfl), (by omega)⟩
