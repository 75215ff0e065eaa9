def nuP (f : Int → Int) (n pos : Int) : Int := if 48 ≤ sgZ f n pos ∧ sgZ f n pos ≤ 57 then (if 48 ≤ sgZ f n (pos + 1) ∧ sgZ f n (pos + 1) ≤ 57 then pos + 1 + 1 else pos + 1) else pos
def nuG (f : Int → Int) (n pos siz : Int) (gt : Int → Int) : Int → Int := if 48 ≤ sgZ f n pos ∧ sgZ f n pos ≤ 57 then (if 48 ≤ sgZ f n (pos + 1) ∧ sgZ f n (pos + 1) ≤ 57 then updZ (updZ (updZ gt siz (sgZ f n pos - 48)) siz (sgZ f n (pos + 1) - 48)) siz (updZ (updZ gt siz (sgZ f n pos - 48)) siz (sgZ f n (pos + 1) - 48) siz + 10 * updZ gt siz (sgZ f n pos - 48) siz) else updZ gt siz (sgZ f n pos - 48)) else gt
theorem nuP_b (f : Int → Int) (n pos : Int) : pos ≤ nuP f n pos ∧ nuP f n pos ≤ pos + 2 := by
  unfold nuP
  split
  · split <;> omega
  · omega
set_option maxHeartbeats 4000000 in
set_option maxRecDepth 20000 in
theorem c_X5_readNumber (l : Launch) (E : Nat → Nat → Nat) (g : Nat) (d : Nat) (r : Nat) (v : Nat) (N : Nat) (f : Int → Int) (pos : Int) (siz : Int) (ml : Int) (n : Int) (t : Nat) (gt : Int → Int) (n0 : 0 ≤ n) (n1 : n ≤ (N : Int)) (N1 : N < 1000) (hf : ∀ j : Int, 0 ≤ f j ∧ f j < 128) (p0 : 0 ≤ pos) (p1 : pos ≤ 1000) (s0 : 0 ≤ siz) (s1 : siz < 8) (p2 : pos ≤ 900) (hd_pg_sb : g + 1 ≤ d ∨ d + 1 ≤ g) (hd_pg_sa : g + 1 ≤ v ∨ v + 1 ≤ g) (hd_pg_rw : g + 1 ≤ t ∨ t + 2 ≤ g) (hd_sb_rw : d + 1 ≤ t ∨ t + 2 ≤ d) (hd_sa_rw : v + 1 ≤ t ∨ t + 2 ≤ v) : Mu l yX5_readNumber cX5_readNumber 3 (some .boolean) 6 0 0 E [(g, 1), (t, 2)] [.ref g, .ref t] (fun H => PR E g [(g, .inr (8, [.ref d, .int (zI pos), .int (zI siz), .ref r, .ref (r + 2), .ref (r + 4), .ref (r + 6), .ref (r + 8)]))] H ∧ PR E d [(d, .inr (1, [.ref v, .int (zI 0), .int (zI ml), .int (zI n)]))] H ∧ PR E v [(v, .inl (E 102 2, N, .inl (zA f)))] H ∧ PR E t (rowW E t 8 gt) H) (fun rv H => (rv = some (.int (zI (bz (48 ≤ sgZ f n pos ∧ sgZ f n pos ≤ 57))))) ∧ PR E g [(g, .inr (8, [.ref d, .int (zI (nuP f n pos)), .int (zI siz), .ref r, .ref (r + 2), .ref (r + 4), .ref (r + 6), .ref (r + 8)]))] H ∧ PR E t (rowW E t 8 (nuG f n pos siz gt)) H) := by
  refine Mu.start (own := RX5) rfl (by decide +kernel) (Nat.le_of_ble_eq_true rfl) ?_
  intro p e s m below meth cd args Q hQ X hr hlk hnm hM hPr
  obtain ⟨h_pg, h_sb, h_sa, h_rw⟩ := hPr
  have hsb := sgZ_b hf n pos
  have hsb1 := sgZ_b hf n (pos + 1)
  refine v_aload_n X dX5_readNumber_0 1 rfl 0 rfl ?_
  refine v_aload_n X dX5_readNumber_1 2 rfl 1 rfl ?_
  refine v_muV X hM (h_pg.1) (c_X5_readDigit l E g d r v N f pos siz ml n t gt n0 n1 N1 hf p0 p1 s0 s1 hd_pg_sb hd_pg_sa hd_pg_rw hd_sb_rw hd_sa_rw) kvX5_readDigit kiX5_readDigit kl_X5_97 (q0 := 0) rfl rfl (As := [.ref t]) rfl rfl rfl dX5_readNumber_2 5 rfl (k' := 0) (n' := 0) rfl rfl (by intro q hq; simp only [Fr, Fs, or_false, false_or] at hq ⊢; omega) ⟨h_pg, h_sb, h_sa, h_rw⟩ (fun rv H1 lo1 hM hF hpo => ?_)
  obtain ⟨rfl, hw_0, hw_1⟩ := hpo
  have h_pg : PR E g [(g, .inr (8, [.ref d, .int (zI (if 48 ≤ sgZ f n pos ∧ sgZ f n pos ≤ 57 then pos + 1 else pos)), .int (zI siz), .ref r, .ref (r + 2), .ref (r + 4), .ref (r + 6), .ref (r + 8)]))] H1 := hw_0
  have h_rw : PR E t (rowW E t 8 (if 48 ≤ sgZ f n pos ∧ sgZ f n pos ≤ 57 then updZ gt siz (sgZ f n pos - 48) else gt)) H1 := hw_1
  replace h_sb := h_sb.kept hF 1 rfl (by intro q q1 q2 q3; simp only [Fs, or_false] at q3; omega)
  replace h_sa := h_sa.kept hF 1 rfl (by intro q q1 q2 q3; simp only [Fs, or_false] at q3; omega)
  show V p l e (rmL 6 0 0) s m args below meth cd Q 3 H1 lo1 0 0 5 [(0, .ref g), (1, .ref t)] [.int (zI (bz (48 ≤ sgZ f n pos ∧ sgZ f n pos ≤ 57)))]
  refine v_bif_ne X dX5_readNumber_5 8 10 rfl (by decide) (fun c_2 => ?_) (fun c_2 => ?_)
  · skip
    rw [if_pos c_2] at h_pg
    replace h_pg : PR E g [(g, .inr (8, [.ref d, .int (zI (pos + 1)), .int (zI siz), .ref r, .ref (r + 2), .ref (r + 4), .ref (r + 6), .ref (r + 8)]))] H1 := h_pg
    rw [if_pos c_2] at h_rw
    replace h_rw : PR E t (rowW E t 8 (updZ gt siz (sgZ f n pos - 48))) H1 := h_rw
    refine v_aload_n X dX5_readNumber_10 11 rfl 1 rfl ?_
    refine v_aload_n X dX5_readNumber_11 12 rfl 0 rfl ?_
    refine v_getf X hM.C h_pg.1 inX5 0 rfl rfl 2 (by decide) kf_X5_22 (fun _ h => h) rfl dX5_readNumber_12 15 rfl ?_
    show V p l e (rmL 6 0 0) s m args below meth cd Q 3 H1 lo1 0 0 15 [(0, .ref g), (1, .ref t)] [.int (zI siz), .ref t]
    refine v_rdV X hM.C h_rw.1 (c_X6_get l E t 8 (updZ gt siz (sgZ f n pos - 48)) siz s0 s1 (by omega)) kvX6_get kiX6_get kl_X5_112 rfl rfl (As := [.int (zI siz)]) rfl rfl rfl dX5_readNumber_15 18 rfl ?_
    show V p l e (rmL 6 0 0) s m args below meth cd Q 3 H1 lo1 0 0 18 [(0, .ref g), (1, .ref t)] [.int (zI ((updZ gt siz (sgZ f n pos - 48)) siz))]
    have htn := updZ_at gt siz (sgZ f n pos - 48)
    refine v_istore_n X dX5_readNumber_18 19 rfl rfl (by decide) (L' := [(2, .int (zI ((updZ gt siz (sgZ f n pos - 48)) siz))), (0, .ref g), (1, .ref t)]) rfl ?_
    refine v_aload_n X dX5_readNumber_19 20 rfl 1 rfl ?_
    refine v_aload_n X dX5_readNumber_20 21 rfl 2 rfl ?_
    refine v_muV X hM (h_pg.1) (c_X5_readDigit l E g d r v N f (pos + 1) siz ml n t (updZ gt siz (sgZ f n pos - 48)) n0 n1 N1 hf (by omega) (by omega) s0 s1 hd_pg_sb hd_pg_sa hd_pg_rw hd_sb_rw hd_sa_rw) kvX5_readDigit kiX5_readDigit kl_X5_97 (q0 := 0) rfl rfl (As := [.ref t]) rfl rfl rfl dX5_readNumber_21 24 rfl (k' := 0) (n' := 0) rfl rfl (by intro q hq; simp only [Fr, Fs, or_false, false_or] at hq ⊢; omega) ⟨h_pg, h_sb, h_sa, h_rw⟩ (fun rv H3 lo3 hM hF hpo => ?_)
    obtain ⟨rfl, hw_0, hw_1⟩ := hpo
    have h_pg : PR E g [(g, .inr (8, [.ref d, .int (zI (if 48 ≤ sgZ f n (pos + 1) ∧ sgZ f n (pos + 1) ≤ 57 then (pos + 1) + 1 else (pos + 1))), .int (zI siz), .ref r, .ref (r + 2), .ref (r + 4), .ref (r + 6), .ref (r + 8)]))] H3 := hw_0
    have h_rw : PR E t (rowW E t 8 (if 48 ≤ sgZ f n (pos + 1) ∧ sgZ f n (pos + 1) ≤ 57 then updZ (updZ gt siz (sgZ f n pos - 48)) siz (sgZ f n (pos + 1) - 48) else (updZ gt siz (sgZ f n pos - 48)))) H3 := hw_1
    replace h_sb := h_sb.kept hF 1 rfl (by intro q q1 q2 q3; simp only [Fs, or_false] at q3; omega)
    replace h_sa := h_sa.kept hF 1 rfl (by intro q q1 q2 q3; simp only [Fs, or_false] at q3; omega)
    show V p l e (rmL 6 0 0) s m args below meth cd Q 3 H3 lo3 0 0 24 [(2, .int (zI ((updZ gt siz (sgZ f n pos - 48)) siz))), (0, .ref g), (1, .ref t)] [.int (zI (bz (48 ≤ sgZ f n (pos + 1) ∧ sgZ f n (pos + 1) ≤ 57)))]
    refine v_bif_eq X dX5_readNumber_24 27 39 rfl (by decide) (fun c_4 => ?_) (fun c_4 => ?_)
    · skip
      rw [if_neg c_4] at h_pg
      replace h_pg : PR E g [(g, .inr (8, [.ref d, .int (zI (pos + 1)), .int (zI siz), .ref r, .ref (r + 2), .ref (r + 4), .ref (r + 6), .ref (r + 8)]))] H3 := h_pg
      rw [if_neg c_4] at h_rw
      replace h_rw : PR E t (rowW E t 8 (updZ gt siz (sgZ f n pos - 48))) H3 := h_rw
      refine v_iconst X dX5_readNumber_39 40 rfl ?_
      subst hQ; exact m_zret X hr hlk hM dX5_readNumber_40 rfl (by omega) ⟨(sv (bz_t (by omega))), (PR.to h_pg (by unfold nuP; (repeat' split); all_goals first | rfl | (exfalso; omega))), (PR.to h_rw (by unfold nuG; (repeat' split); all_goals first | rfl | (exfalso; omega)))⟩
    · skip
      rw [if_pos c_4] at h_pg
      replace h_pg : PR E g [(g, .inr (8, [.ref d, .int (zI ((pos + 1) + 1)), .int (zI siz), .ref r, .ref (r + 2), .ref (r + 4), .ref (r + 6), .ref (r + 8)]))] H3 := h_pg
      rw [if_pos c_4] at h_rw
      replace h_rw : PR E t (rowW E t 8 (updZ (updZ gt siz (sgZ f n pos - 48)) siz (sgZ f n (pos + 1) - 48))) H3 := h_rw
      refine v_aload_n X dX5_readNumber_27 28 rfl 2 rfl ?_
      refine v_aload_n X dX5_readNumber_28 29 rfl 1 rfl ?_
      refine v_getf X hM.C h_pg.1 inX5 0 rfl rfl 2 (by decide) kf_X5_22 (fun _ h => h) rfl dX5_readNumber_29 32 rfl ?_
      show V p l e (rmL 6 0 0) s m args below meth cd Q 3 H3 lo3 0 0 32 [(2, .int (zI ((updZ gt siz (sgZ f n pos - 48)) siz))), (0, .ref g), (1, .ref t)] [.int (zI siz), .ref t]
      refine v_bipush X dX5_readNumber_32 34 rfl rfl ?_
      refine v_iload_n X dX5_readNumber_34 35 rfl 0 rfl ?_
      refine v_imul X dX5_readNumber_35 36 rfl ?_
      refine v_muV X hM (h_rw.1) (c_X6_add l E t 8 (updZ (updZ gt siz (sgZ f n pos - 48)) siz (sgZ f n (pos + 1) - 48)) siz (10 * ((updZ gt siz (sgZ f n pos - 48)) siz)) s0 s1 (by omega)) kvX6_add kiX6_add kl_X5_116 (q0 := 0) rfl rfl (As := [.int (zI siz), .int (zI (10 * ((updZ gt siz (sgZ f n pos - 48)) siz)))]) rfl rfl rfl dX5_readNumber_36 39 rfl (k' := 0) (n' := 0) rfl rfl (fsI (fun q q1 q2 => (Or.inl (fsT (fsH (by omega) (by omega)))))) h_rw (fun rv H5 lo5 hM hF hpo => ?_)
      obtain ⟨rfl, hw_0⟩ := hpo
      have h_rw : PR E t (rowW E t 8 (updZ (updZ (updZ gt siz (sgZ f n pos - 48)) siz (sgZ f n (pos + 1) - 48)) siz ((updZ (updZ gt siz (sgZ f n pos - 48)) siz (sgZ f n (pos + 1) - 48)) siz + (10 * ((updZ gt siz (sgZ f n pos - 48)) siz))))) H5 := hw_0
      replace h_pg := h_pg.kept hF 1 rfl (fsd (by omega))
      replace h_sb := h_sb.kept hF 1 rfl (fsd (by omega))
      replace h_sa := h_sa.kept hF 1 rfl (fsd (by omega))
      show V p l e (rmL 6 0 0) s m args below meth cd Q 3 H5 lo5 0 0 39 [(2, .int (zI ((updZ gt siz (sgZ f n pos - 48)) siz))), (0, .ref g), (1, .ref t)] []
      refine v_iconst X dX5_readNumber_39 40 rfl ?_
      subst hQ; exact m_zret X hr hlk hM dX5_readNumber_40 rfl (by omega) ⟨(sv (bz_t (by omega))), (PR.to h_pg (by unfold nuP; (repeat' split); all_goals first | rfl | (exfalso; omega))), (PR.to h_rw (by unfold nuG; (repeat' split); all_goals first | rfl | (exfalso; omega)))⟩
  · skip
    rw [if_neg c_2] at h_pg
    replace h_pg : PR E g [(g, .inr (8, [.ref d, .int (zI pos), .int (zI siz), .ref r, .ref (r + 2), .ref (r + 4), .ref (r + 6), .ref (r + 8)]))] H1 := h_pg
    rw [if_neg c_2] at h_rw
    replace h_rw : PR E t (rowW E t 8 gt) H1 := h_rw
    refine v_iconst X dX5_readNumber_8 9 rfl ?_
    subst hQ; exact m_zret X hr hlk hM dX5_readNumber_9 rfl (by omega) ⟨(sv (bz_f (by omega))), (PR.to h_pg (by unfold nuP; (repeat' split); all_goals first | rfl | (exfalso; omega))), (PR.to h_rw (by unfold nuG; (repeat' split); all_goals first | rfl | (exfalso; omega)))⟩
