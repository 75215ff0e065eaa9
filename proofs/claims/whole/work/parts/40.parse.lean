def kkZ (f : Int → Int) (n pos : Int) : Int := if fwZ f n pos (bkZ f n pos 7) = kwLen (bkZ f n pos 7) then ((bkZ f n pos 7 : Nat) : Int) else -1
set_option maxHeartbeats 4000000 in
set_option maxRecDepth 20000 in
theorem c_X5_readKeyword (l : Launch) (E : Nat → Nat → Nat) (g : Nat) (d : Nat) (r : Nat) (v : Nat) (N : Nat) (f : Int → Int) (pos : Int) (siz : Int) (ml : Int) (n : Int) (n0 : 0 ≤ n) (n1 : n ≤ (N : Int)) (N1 : N < 1000) (hf : ∀ j : Int, 0 ≤ f j ∧ f j < 128) (p0 : 0 ≤ pos) (p1 : pos ≤ 1000) (hd_pg_sb : g + 1 ≤ d ∨ d + 1 ≤ g) (hd_pg_sa : g + 1 ≤ v ∨ v + 1 ≤ g) : Mu l yX5_readKeyword cX5_readKeyword 3 (some .int) 6 0 0 E [(g, 1)] [.ref g] (fun H => PR E g [(g, .inr (8, [.ref d, .int (zI pos), .int (zI siz), .ref r, .ref (r + 2), .ref (r + 4), .ref (r + 6), .ref (r + 8)]))] H ∧ PR E d [(d, .inr (1, [.ref v, .int (zI 0), .int (zI ml), .int (zI n)]))] H ∧ PR E v [(v, .inl (E 102 2, N, .inl (zA f)))] H) (fun rv H => rv = some (.int (zI (kkZ f n pos))) ∧ PR E g [(g, .inr (8, [.ref d, .int (zI (pos + fwZ f n pos (bkZ f n pos 7))), .int (zI siz), .ref r, .ref (r + 2), .ref (r + 4), .ref (r + 6), .ref (r + 8)]))] H) := by
  refine Mu.start (own := RX5) rfl (by decide +kernel) (Nat.le_of_ble_eq_true rfl) ?_
  intro p e s m below meth cd args Q hQ X hr hlk hnm hM hPr
  obtain ⟨h_pg, h_sb, h_sa⟩ := hPr
  have hb7 := bkZ_b f n pos 7
  refine v_iconst X dX5_readKeyword_0 1 rfl ?_
  refine v_istore_n X dX5_readKeyword_1 2 rfl rfl (by decide) (L' := [(1, .int (zI 0)), (0, .ref g)]) rfl ?_
  refine v_iconst X dX5_readKeyword_2 3 rfl ?_
  refine v_istore_n X dX5_readKeyword_3 4 rfl rfl (by decide) (L' := [(2, .int (zI 0)), (1, .int (zI 0)), (0, .ref g)]) rfl ?_
  refine V_L (L' := [(2, .int (zI 0)), (1, .int (zI ((bkZ f n pos 0 : Nat) : Int))), (0, .ref g)]) (LC rfl (LC (vz (by rfl)) (LC rfl rfl))) ?_
  refine up_loop 7 (P := fun (i : Nat) => ∀ (H : Heap) (lo : List Loc), MS E [(g, 1)] s H lo → PR E g [(g, .inr (8, [.ref d, .int (zI pos), .int (zI siz), .ref r, .ref (r + 2), .ref (r + 4), .ref (r + 6), .ref (r + 8)]))] H → PR E d [(d, .inr (1, [.ref v, .int (zI 0), .int (zI ml), .int (zI n)]))] H → PR E v [(v, .inl (E 102 2, N, .inl (zA f)))] H → V p l e (rmL 6 0 0) s m args below meth cd Q 3 H lo 0 0 4 [(2, .int (zI (i : Int))), (1, .int (zI ((bkZ f n pos i : Nat) : Int))), (0, .ref g)] []) (fun i hi_i ih_i H1 lo1 hM h_pg h_sb h_sa => ?_) _ _ hM h_pg h_sb h_sa
  have hbi := bkZ_b f n pos i
  have hfb := fwZ_b f n pos (q := bkZ f n pos i) (by omega)
  have hlb := kwLen_b (q := bkZ f n pos i) (by omega)
  refine v_iload_n X dX5_readKeyword_4 5 rfl 0 rfl ?_
  refine v_bipush X dX5_readKeyword_5 7 rfl rfl ?_
  refine v_icmp_ge X (by omega) (by omega) dX5_readKeyword_7 10 37 rfl (by decide) (fun c_2 => ?_) (fun c_2 => ?_)
  · skip
    refine v_aload_n X dX5_readKeyword_37 38 rfl 2 rfl ?_
    refine v_iload_n X dX5_readKeyword_38 39 rfl 1 rfl ?_
    refine v_rdS X hM.C (ws0 E H1) (c_X5_keywordOf l E ((bkZ f n pos i : Nat) : Int) (by omega) (by omega)) kvX5_keywordOf ksX5_keywordOf kl_X5_65 (As := [.int (zI ((bkZ f n pos i : Nat) : Int))]) rfl rfl rfl dX5_readKeyword_39 42 rfl ?_
    show V p l e (rmL 6 0 0) s m args below meth cd Q 3 H1 lo1 0 0 42 [(2, .int (zI (i : Int))), (1, .int (zI ((bkZ f n pos i : Nat) : Int))), (0, .ref g)] [.ref (E 105 (Int.toNat ((bkZ f n pos i : Nat) : Int))), .ref g]
    refine V_S (st' := [.ref (E 105 (bkZ f n pos i)), .ref g]) (by rfl) ?_
    refine v_rdV X hM.C (PW.app (PW.app h_pg.1 h_sb.1) h_sa.1) (c_X5_followed l E g d r v N f pos siz ml n (bkZ f n pos i) n0 n1 N1 hf p0 p1 (by omega)) kvX5_followed kiX5_followed kl_X5_69 rfl rfl (As := [.ref (E 105 (bkZ f n pos i))]) rfl rfl rfl dX5_readKeyword_42 45 rfl ?_
    show V p l e (rmL 6 0 0) s m args below meth cd Q 3 H1 lo1 0 0 45 [(2, .int (zI (i : Int))), (1, .int (zI ((bkZ f n pos i : Nat) : Int))), (0, .ref g)] [.int (zI (fwZ f n pos (bkZ f n pos i)))]
    refine v_istore_n X dX5_readKeyword_45 46 rfl rfl (by decide) (L' := [(2, .int (zI (fwZ f n pos (bkZ f n pos i)))), (1, .int (zI ((bkZ f n pos i : Nat) : Int))), (0, .ref g)]) rfl ?_
    refine v_aload_n X dX5_readKeyword_46 47 rfl 2 rfl ?_
    refine v_dup X dX5_readKeyword_47 48 rfl rfl ?_
    refine v_getf X hM.C h_pg.1 inX5 0 rfl rfl 1 (by decide) kf_X5_18 (fun _ h => h) rfl dX5_readKeyword_48 51 rfl ?_
    show V p l e (rmL 6 0 0) s m args below meth cd Q 3 H1 lo1 0 0 51 [(2, .int (zI (fwZ f n pos (bkZ f n pos i)))), (1, .int (zI ((bkZ f n pos i : Nat) : Int))), (0, .ref g)] [.int (zI pos), .ref g]
    refine v_iload_n X dX5_readKeyword_51 52 rfl 0 rfl ?_
    refine v_iadd X dX5_readKeyword_52 53 rfl ?_
    refine v_putf X hM h_pg ftX5 0 rfl rfl 1 (by decide) kf_X5_18 (fun _ h => h) rfl rfl rfl (Nat.le_of_ble_eq_true rfl) (Or.inl (fsH (by omega) (by omega))) dX5_readKeyword_53 56 rfl (ws' := [(g, .inr (8, [.ref d, .int (zI (pos + fwZ f n pos (bkZ f n pos i))), .int (zI siz), .ref r, .ref (r + 2), .ref (r + 4), .ref (r + 6), .ref (r + 8)]))]) rfl (fun H3 lo3 hzz hM hF h_pg => ?_)
    clear hzz
    replace h_sb := h_sb.kept hF 1 rfl (fsd (by omega))
    replace h_sa := h_sa.kept hF 1 rfl (fsd (by omega))
    refine v_iload_n X dX5_readKeyword_56 57 rfl 0 rfl ?_
    refine v_iload_n X dX5_readKeyword_57 58 rfl 1 rfl ?_
    refine v_rdS X hM.C (ws0 E H3) (c_X5_keywordOf l E ((bkZ f n pos i : Nat) : Int) (by omega) (by omega)) kvX5_keywordOf ksX5_keywordOf kl_X5_65 (As := [.int (zI ((bkZ f n pos i : Nat) : Int))]) rfl rfl rfl dX5_readKeyword_58 61 rfl ?_
    show V p l e (rmL 6 0 0) s m args below meth cd Q 3 H3 lo3 0 0 61 [(2, .int (zI (fwZ f n pos (bkZ f n pos i)))), (1, .int (zI ((bkZ f n pos i : Nat) : Int))), (0, .ref g)] [.ref (E 105 (Int.toNat ((bkZ f n pos i : Nat) : Int))), .int (zI (fwZ f n pos (bkZ f n pos i)))]
    refine V_S (st' := [.ref (E 105 (bkZ f n pos i)), .int (zI (fwZ f n pos (bkZ f n pos i)))]) (by rfl) ?_
    refine v_rdK X hM.C (by omega) (c_J0_length_8abf5 l E (bkZ f n pos i) (by omega)) kvJ0_length_8abf5 kiJ0_length_8abf5 rfl kl_X5_73 (As := []) rfl rfl rfl dX5_readKeyword_61 64 rfl ?_
    show V p l e (rmL 6 0 0) s m args below meth cd Q 3 H3 lo3 0 0 64 [(2, .int (zI (fwZ f n pos (bkZ f n pos i)))), (1, .int (zI ((bkZ f n pos i : Nat) : Int))), (0, .ref g)] [.int (zI (kwLen (bkZ f n pos i))), .int (zI (fwZ f n pos (bkZ f n pos i)))]
    refine v_icmp_ne X (by omega) (by omega) dX5_readKeyword_64 67 71 rfl (by decide) (fun c_4 => ?_) (fun c_4 => ?_)
    · skip
      refine v_iconst X dX5_readKeyword_71 72 rfl ?_
      have e7 : i = 7 := by omega
      subst e7
      subst hQ; exact m_iret X hr hlk hM dX5_readKeyword_72 rfl ⟨(sv (by first | (unfold kkZ; rw [if_pos (by omega)]) | (unfold kkZ; rw [if_neg (by omega)]))), h_pg⟩
    · skip
      refine v_iload_n X dX5_readKeyword_67 68 rfl 1 rfl ?_
      refine v_goto X dX5_readKeyword_68 72 (by decide) ?_
      have e7 : i = 7 := by omega
      subst e7
      subst hQ; exact m_iret X hr hlk hM dX5_readKeyword_72 rfl ⟨(sv (by first | (unfold kkZ; rw [if_pos (by omega)]) | (unfold kkZ; rw [if_neg (by omega)]))), h_pg⟩
  · skip
    refine v_aload_n X dX5_readKeyword_10 11 rfl 2 rfl ?_
    refine v_iload_n X dX5_readKeyword_11 12 rfl 0 rfl ?_
    refine v_rdS X hM.C (ws0 E H1) (c_X5_keywordOf l E (i : Int) (by omega) (by omega)) kvX5_keywordOf ksX5_keywordOf kl_X5_65 (As := [.int (zI (i : Int))]) rfl rfl rfl dX5_readKeyword_12 15 rfl ?_
    show V p l e (rmL 6 0 0) s m args below meth cd Q 3 H1 lo1 0 0 15 [(2, .int (zI (i : Int))), (1, .int (zI ((bkZ f n pos i : Nat) : Int))), (0, .ref g)] [.ref (E 105 (Int.toNat (i : Int))), .ref g]
    refine V_S (st' := [.ref (E 105 i), .ref g]) (by rfl) ?_
    refine v_rdV X hM.C (PW.app (PW.app h_pg.1 h_sb.1) h_sa.1) (c_X5_followed l E g d r v N f pos siz ml n i n0 n1 N1 hf p0 p1 (by omega)) kvX5_followed kiX5_followed kl_X5_69 rfl rfl (As := [.ref (E 105 i)]) rfl rfl rfl dX5_readKeyword_15 18 rfl ?_
    show V p l e (rmL 6 0 0) s m args below meth cd Q 3 H1 lo1 0 0 18 [(2, .int (zI (i : Int))), (1, .int (zI ((bkZ f n pos i : Nat) : Int))), (0, .ref g)] [.int (zI (fwZ f n pos i))]
    refine v_aload_n X dX5_readKeyword_18 19 rfl 2 rfl ?_
    refine v_iload_n X dX5_readKeyword_19 20 rfl 1 rfl ?_
    refine v_rdS X hM.C (ws0 E H1) (c_X5_keywordOf l E ((bkZ f n pos i : Nat) : Int) (by omega) (by omega)) kvX5_keywordOf ksX5_keywordOf kl_X5_65 (As := [.int (zI ((bkZ f n pos i : Nat) : Int))]) rfl rfl rfl dX5_readKeyword_20 23 rfl ?_
    show V p l e (rmL 6 0 0) s m args below meth cd Q 3 H1 lo1 0 0 23 [(2, .int (zI (i : Int))), (1, .int (zI ((bkZ f n pos i : Nat) : Int))), (0, .ref g)] [.ref (E 105 (Int.toNat ((bkZ f n pos i : Nat) : Int))), .ref g, .int (zI (fwZ f n pos i))]
    refine V_S (st' := [.ref (E 105 (bkZ f n pos i)), .ref g, .int (zI (fwZ f n pos i))]) (by rfl) ?_
    refine v_rdV X hM.C (PW.app (PW.app h_pg.1 h_sb.1) h_sa.1) (c_X5_followed l E g d r v N f pos siz ml n (bkZ f n pos i) n0 n1 N1 hf p0 p1 (by omega)) kvX5_followed kiX5_followed kl_X5_69 rfl rfl (As := [.ref (E 105 (bkZ f n pos i))]) rfl rfl rfl dX5_readKeyword_23 26 rfl ?_
    show V p l e (rmL 6 0 0) s m args below meth cd Q 3 H1 lo1 0 0 26 [(2, .int (zI (i : Int))), (1, .int (zI ((bkZ f n pos i : Nat) : Int))), (0, .ref g)] [.int (zI (fwZ f n pos (bkZ f n pos i))), .int (zI (fwZ f n pos i))]
    have hfj := fwZ_b f n pos (q := i) (by omega)
    have hlj := kwLen_b (q := i) (by omega)
    refine v_icmp_le X (by omega) (by omega) dX5_readKeyword_26 29 31 rfl (by decide) (fun c_5 => ?_) (fun c_5 => ?_)
    · skip
      refine v_iinc X dX5_readKeyword_31 34 rfl 0 rfl (by decide) (L' := [(2, .int (zI ((i : Int) + 1))), (1, .int (zI ((bkZ f n pos i : Nat) : Int))), (0, .ref g)]) rfl ?_
      refine v_goto X dX5_readKeyword_34 4 (by decide) ?_
      exact V_L (L' := [(2, .int (zI ((i + 1 : Nat) : Int))), (1, .int (zI ((bkZ f n pos (i + 1) : Nat) : Int))), (0, .ref g)]) (LC (vz (by omega)) (LC (vz (by first | (rw [bkZ_s, if_pos (by omega)]) | (rw [bkZ_s, if_neg (by omega)]))) (LC rfl rfl))) (ih_i (by omega) _ _ hM h_pg h_sb h_sa)
    · skip
      refine v_iload_n X dX5_readKeyword_29 30 rfl 0 rfl ?_
      refine v_istore_n X dX5_readKeyword_30 31 rfl rfl (by decide) (L' := [(1, .int (zI (i : Int))), (2, .int (zI (i : Int))), (0, .ref g)]) rfl ?_
      refine v_iinc X dX5_readKeyword_31 34 rfl 1 rfl (by decide) (L' := [(2, .int (zI ((i : Int) + 1))), (1, .int (zI (i : Int))), (0, .ref g)]) rfl ?_
      refine v_goto X dX5_readKeyword_34 4 (by decide) ?_
      exact V_L (L' := [(2, .int (zI ((i + 1 : Nat) : Int))), (1, .int (zI ((bkZ f n pos (i + 1) : Nat) : Int))), (0, .ref g)]) (LC (vz (by omega)) (LC (vz (by first | (rw [bkZ_s, if_pos (by omega)]) | (rw [bkZ_s, if_neg (by omega)]))) (LC rfl rfl))) (ih_i (by omega) _ _ hM h_pg h_sb h_sa)
set_option maxHeartbeats 4000000 in
set_option maxRecDepth 20000 in
theorem c_X5_readSign (l : Launch) (E : Nat → Nat → Nat) (g : Nat) (d : Nat) (r : Nat) (v : Nat) (N : Nat) (f : Int → Int) (pos : Int) (siz : Int) (ml : Int) (n : Int) (c : Int) (n0 : 0 ≤ n) (n1 : n ≤ (N : Int)) (N1 : N < 1000) (hf : ∀ j : Int, 0 ≤ f j ∧ f j < 128) (p0 : 0 ≤ pos) (p1 : pos ≤ 1000) (c0 : 0 ≤ c) (c1 : c < 128) (hd_pg_sb : g + 1 ≤ d ∨ d + 1 ≤ g) (hd_pg_sa : g + 1 ≤ v ∨ v + 1 ≤ g) : Mu l yX5_readSign cX5_readSign 2 (some .boolean) 5 0 0 E [(g, 1)] [.ref g, .int (zI c)] (fun H => PR E g [(g, .inr (8, [.ref d, .int (zI pos), .int (zI siz), .ref r, .ref (r + 2), .ref (r + 4), .ref (r + 6), .ref (r + 8)]))] H ∧ PR E d [(d, .inr (1, [.ref v, .int (zI 0), .int (zI ml), .int (zI n)]))] H ∧ PR E v [(v, .inl (E 102 2, N, .inl (zA f)))] H) (fun rv H => rv = some (.int (zI (bz (sgZ f n pos = c)))) ∧ PR E g [(g, .inr (8, [.ref d, .int (zI (if sgZ f n pos = c then pos + 1 else pos)), .int (zI siz), .ref r, .ref (r + 2), .ref (r + 4), .ref (r + 6), .ref (r + 8)]))] H) := by
  refine Mu.start (own := RX5) rfl (by decide +kernel) (Nat.le_of_ble_eq_true rfl) ?_
  intro p e s m below meth cd args Q hQ X hr hlk hnm hM hPr
  obtain ⟨h_pg, h_sb, h_sa⟩ := hPr
  have hsb := sgZ_b hf n pos
  refine v_aload_n X dX5_readSign_0 1 rfl 0 rfl ?_
  refine v_aload_n X dX5_readSign_1 2 rfl 0 rfl ?_
  refine v_getf X hM.C h_pg.1 inX5 0 rfl rfl 1 (by decide) kf_X5_18 (fun _ h => h) rfl dX5_readSign_2 5 rfl ?_
  show V p l e (rmL 5 0 0) s m args below meth cd Q 2 s.heap [] 0 0 5 [(0, .ref g), (1, .int (zI c))] [.int (zI pos), .ref g]
  refine v_rdV X hM.C (PW.app (PW.app h_pg.1 h_sb.1) h_sa.1) (c_X5_signAt l E g d r v N f pos siz ml n pos n0 n1 N1 hf (by omega)) kvX5_signAt kiX5_signAt kl_X5_76 rfl rfl (As := [.int (zI pos)]) rfl rfl rfl dX5_readSign_5 8 rfl ?_
  show V p l e (rmL 5 0 0) s m args below meth cd Q 2 s.heap [] 0 0 8 [(0, .ref g), (1, .int (zI c))] [.int (zI (sgZ f n pos))]
  refine v_iload_n X dX5_readSign_8 9 rfl 1 rfl ?_
  refine v_icmp_eq X (by omega) (by omega) dX5_readSign_9 12 14 rfl (by decide) (fun c_1 => ?_) (fun c_1 => ?_)
  · skip
    refine v_aload_n X dX5_readSign_14 15 rfl 0 rfl ?_
    refine v_dup X dX5_readSign_15 16 rfl rfl ?_
    refine v_getf X hM.C h_pg.1 inX5 0 rfl rfl 1 (by decide) kf_X5_18 (fun _ h => h) rfl dX5_readSign_16 19 rfl ?_
    show V p l e (rmL 5 0 0) s m args below meth cd Q 2 s.heap [] 0 0 19 [(0, .ref g), (1, .int (zI c))] [.int (zI pos), .ref g]
    refine v_iconst X dX5_readSign_19 20 rfl ?_
    refine v_iadd X dX5_readSign_20 21 rfl ?_
    refine v_putf X hM h_pg ftX5 0 rfl rfl 1 (by decide) kf_X5_18 (fun _ h => h) rfl rfl rfl (Nat.le_of_ble_eq_true rfl) (Or.inl (fsH (by omega) (by omega))) dX5_readSign_21 24 rfl (ws' := [(g, .inr (8, [.ref d, .int (zI (pos + 1)), .int (zI siz), .ref r, .ref (r + 2), .ref (r + 4), .ref (r + 6), .ref (r + 8)]))]) rfl (fun H2 lo2 hzz hM hF h_pg => ?_)
    clear hzz
    replace h_sb := h_sb.kept hF 1 rfl (fsd (by omega))
    replace h_sa := h_sa.kept hF 1 rfl (fsd (by omega))
    refine v_iconst X dX5_readSign_24 25 rfl ?_
    subst hQ; exact m_zret X hr hlk hM dX5_readSign_25 rfl (by omega) ⟨(sv (bz_t (by omega))), (PR.to h_pg (by first | rw [if_pos (by omega)] | rw [if_neg (by omega)]))⟩
  · skip
    refine v_iconst X dX5_readSign_12 13 rfl ?_
    subst hQ; exact m_zret X hr hlk hM dX5_readSign_13 rfl (by omega) ⟨(sv (bz_f (by omega))), (PR.to h_pg (by first | rw [if_pos (by omega)] | rw [if_neg (by omega)]))⟩
set_option maxHeartbeats 4000000 in
set_option maxRecDepth 20000 in
theorem c_X5_readDigit (l : Launch) (E : Nat → Nat → Nat) (g : Nat) (d : Nat) (r : Nat) (v : Nat) (N : Nat) (f : Int → Int) (pos : Int) (siz : Int) (ml : Int) (n : Int) (t : Nat) (gt : Int → Int) (n0 : 0 ≤ n) (n1 : n ≤ (N : Int)) (N1 : N < 1000) (hf : ∀ j : Int, 0 ≤ f j ∧ f j < 128) (p0 : 0 ≤ pos) (p1 : pos ≤ 1000) (s0 : 0 ≤ siz) (s1 : siz < 8) (hd_pg_sb : g + 1 ≤ d ∨ d + 1 ≤ g) (hd_pg_sa : g + 1 ≤ v ∨ v + 1 ≤ g) (hd_pg_rw : g + 1 ≤ t ∨ t + 2 ≤ g) (hd_sb_rw : d + 1 ≤ t ∨ t + 2 ≤ d) (hd_sa_rw : v + 1 ≤ t ∨ t + 2 ≤ v) : Mu l yX5_readDigit cX5_readDigit 3 (some .boolean) 5 0 0 E [(g, 1), (t, 2)] [.ref g, .ref t] (fun H => PR E g [(g, .inr (8, [.ref d, .int (zI pos), .int (zI siz), .ref r, .ref (r + 2), .ref (r + 4), .ref (r + 6), .ref (r + 8)]))] H ∧ PR E d [(d, .inr (1, [.ref v, .int (zI 0), .int (zI ml), .int (zI n)]))] H ∧ PR E v [(v, .inl (E 102 2, N, .inl (zA f)))] H ∧ PR E t (rowW E t 8 gt) H) (fun rv H => (rv = some (.int (zI (bz (48 ≤ sgZ f n pos ∧ sgZ f n pos ≤ 57))))) ∧ (PR E g [(g, .inr (8, [.ref d, .int (zI (if 48 ≤ sgZ f n pos ∧ sgZ f n pos ≤ 57 then pos + 1 else pos)), .int (zI siz), .ref r, .ref (r + 2), .ref (r + 4), .ref (r + 6), .ref (r + 8)]))] H) ∧ (PR E t (rowW E t 8 (if 48 ≤ sgZ f n pos ∧ sgZ f n pos ≤ 57 then updZ gt siz (sgZ f n pos - 48) else gt)) H)) := by
  refine Mu.start (own := RX5) rfl (by decide +kernel) (Nat.le_of_ble_eq_true rfl) ?_
  intro p e s m below meth cd args Q hQ X hr hlk hnm hM hPr
  obtain ⟨h_pg, h_sb, h_sa, h_rw⟩ := hPr
  have hsb := sgZ_b hf n pos
  refine v_aload_n X dX5_readDigit_0 1 rfl 0 rfl ?_
  refine v_aload_n X dX5_readDigit_1 2 rfl 0 rfl ?_
  refine v_getf X hM.C h_pg.1 inX5 0 rfl rfl 1 (by decide) kf_X5_18 (fun _ h => h) rfl dX5_readDigit_2 5 rfl ?_
  show V p l e (rmL 5 0 0) s m args below meth cd Q 3 s.heap [] 0 0 5 [(0, .ref g), (1, .ref t)] [.int (zI pos), .ref g]
  refine v_rdV X hM.C (PW.app (PW.app h_pg.1 h_sb.1) h_sa.1) (c_X5_signAt l E g d r v N f pos siz ml n pos n0 n1 N1 hf (by omega)) kvX5_signAt kiX5_signAt kl_X5_76 rfl rfl (As := [.int (zI pos)]) rfl rfl rfl dX5_readDigit_5 8 rfl ?_
  show V p l e (rmL 5 0 0) s m args below meth cd Q 3 s.heap [] 0 0 8 [(0, .ref g), (1, .ref t)] [.int (zI (sgZ f n pos))]
  refine v_istore_n X dX5_readDigit_8 9 rfl rfl (by decide) (L' := [(2, .int (zI (sgZ f n pos))), (0, .ref g), (1, .ref t)]) rfl ?_
  refine v_iload_n X dX5_readDigit_9 10 rfl 0 rfl ?_
  refine v_bipush X dX5_readDigit_10 12 rfl rfl ?_
  refine v_icmp_lt X (by omega) (by omega) dX5_readDigit_12 15 21 rfl (by decide) (fun c_1 => ?_) (fun c_1 => ?_)
  · skip
    refine v_iconst X dX5_readDigit_21 22 rfl ?_
    subst hQ; exact m_zret X hr hlk hM dX5_readDigit_22 rfl (by omega) ⟨(sv (bz_f (by omega))), (PR.to h_pg (by first | rw [if_pos ⟨by omega, by omega⟩] | rw [if_neg (by omega)])), (PR.to h_rw (by first | rw [if_pos ⟨by omega, by omega⟩] | rw [if_neg (by omega)]))⟩
  · skip
    refine v_iload_n X dX5_readDigit_15 16 rfl 0 rfl ?_
    refine v_bipush X dX5_readDigit_16 18 rfl rfl ?_
    refine v_icmp_le X (by omega) (by omega) dX5_readDigit_18 21 23 rfl (by decide) (fun c_2 => ?_) (fun c_2 => ?_)
    · skip
      refine v_aload_n X dX5_readDigit_23 24 rfl 2 rfl ?_
      refine v_aload_n X dX5_readDigit_24 25 rfl 1 rfl ?_
      refine v_getf X hM.C h_pg.1 inX5 0 rfl rfl 2 (by decide) kf_X5_22 (fun _ h => h) rfl dX5_readDigit_25 28 rfl ?_
      show V p l e (rmL 5 0 0) s m args below meth cd Q 3 s.heap [] 0 0 28 [(2, .int (zI (sgZ f n pos))), (0, .ref g), (1, .ref t)] [.int (zI siz), .ref t]
      refine v_iload_n X dX5_readDigit_28 29 rfl 0 rfl ?_
      refine v_bipush X dX5_readDigit_29 31 rfl rfl ?_
      refine v_isub X dX5_readDigit_31 32 rfl ?_
      refine v_muV X hM (h_rw.1) (c_X6_put l E t 8 gt siz (sgZ f n pos - 48) s0 s1 (by omega)) kvX6_put kiX6_put kl_X5_54 (q0 := 0) rfl rfl (As := [.int (zI siz), .int (zI (sgZ f n pos - 48))]) rfl rfl rfl dX5_readDigit_32 35 rfl (k' := 0) (n' := 0) rfl rfl (fsI (fun q q1 q2 => (Or.inl (fsT (fsH (by omega) (by omega)))))) h_rw (fun rv H3 lo3 hM hF hpo => ?_)
      obtain ⟨rfl, hw_0⟩ := hpo
      have h_rw : PR E t (rowW E t 8 (updZ gt siz (sgZ f n pos - 48))) H3 := hw_0
      replace h_pg := h_pg.kept hF 1 rfl (fsd (by omega))
      replace h_sb := h_sb.kept hF 1 rfl (fsd (by omega))
      replace h_sa := h_sa.kept hF 1 rfl (fsd (by omega))
      show V p l e (rmL 5 0 0) s m args below meth cd Q 3 H3 lo3 0 0 35 [(2, .int (zI (sgZ f n pos))), (0, .ref g), (1, .ref t)] []
      refine v_aload_n X dX5_readDigit_35 36 rfl 1 rfl ?_
      refine v_dup X dX5_readDigit_36 37 rfl rfl ?_
      refine v_getf X hM.C h_pg.1 inX5 0 rfl rfl 1 (by decide) kf_X5_18 (fun _ h => h) rfl dX5_readDigit_37 40 rfl ?_
      show V p l e (rmL 5 0 0) s m args below meth cd Q 3 H3 lo3 0 0 40 [(2, .int (zI (sgZ f n pos))), (0, .ref g), (1, .ref t)] [.int (zI pos), .ref g]
      refine v_iconst X dX5_readDigit_40 41 rfl ?_
      refine v_iadd X dX5_readDigit_41 42 rfl ?_
      refine v_putf X hM h_pg ftX5 0 rfl rfl 1 (by decide) kf_X5_18 (fun _ h => h) rfl rfl rfl (Nat.le_of_ble_eq_true rfl) (Or.inl (fsH (by omega) (by omega))) dX5_readDigit_42 45 rfl (ws' := [(g, .inr (8, [.ref d, .int (zI (pos + 1)), .int (zI siz), .ref r, .ref (r + 2), .ref (r + 4), .ref (r + 6), .ref (r + 8)]))]) rfl (fun H4 lo4 hzz hM hF h_pg => ?_)
      clear hzz
      replace h_sb := h_sb.kept hF 1 rfl (fsd (by omega))
      replace h_sa := h_sa.kept hF 1 rfl (fsd (by omega))
      replace h_rw := h_rw.kept hF 2 rfl (fsd (by omega))
      refine v_iconst X dX5_readDigit_45 46 rfl ?_
      subst hQ; exact m_zret X hr hlk hM dX5_readDigit_46 rfl (by omega) ⟨(sv (bz_t (by omega))), (PR.to h_pg (by first | rw [if_pos ⟨by omega, by omega⟩] | rw [if_neg (by omega)])), (PR.to h_rw (by first | rw [if_pos ⟨by omega, by omega⟩] | rw [if_neg (by omega)]))⟩
    · skip
      refine v_iconst X dX5_readDigit_21 22 rfl ?_
      subst hQ; exact m_zret X hr hlk hM dX5_readDigit_22 rfl (by omega) ⟨(sv (bz_f (by omega))), (PR.to h_pg (by first | rw [if_pos ⟨by omega, by omega⟩] | rw [if_neg (by omega)])), (PR.to h_rw (by first | rw [if_pos ⟨by omega, by omega⟩] | rw [if_neg (by omega)]))⟩
set_option maxHeartbeats 4000000 in
set_option maxRecDepth 20000 in
theorem c_X5_readFlag (l : Launch) (E : Nat → Nat → Nat) (g : Nat) (d : Nat) (r : Nat) (v : Nat) (N : Nat) (f : Int → Int) (pos : Int) (siz : Int) (ml : Int) (n : Int) (gt : Int → Int) (c : Int) (c2 : Int) (n0 : 0 ≤ n) (n1 : n ≤ (N : Int)) (N1 : N < 1000) (hf : ∀ j : Int, 0 ≤ f j ∧ f j < 128) (p0 : 0 ≤ pos) (p1 : pos ≤ 1000) (s0 : 0 ≤ siz) (s1 : siz < 8) (c0 : 0 ≤ c) (c1 : c < 128) (c20 : 0 ≤ c2) (c21 : c2 < 128) (hd_pg_sb : g + 1 ≤ d ∨ d + 1 ≤ g) (hd_pg_sa : g + 1 ≤ v ∨ v + 1 ≤ g) (hd_pg_rw : g + 1 ≤ r + 6 ∨ r + 6 + 2 ≤ g) (hd_sb_rw : d + 1 ≤ r + 6 ∨ r + 6 + 2 ≤ d) (hd_sa_rw : v + 1 ≤ r + 6 ∨ r + 6 + 2 ≤ v) : Mu l yX5_readFlag cX5_readFlag 4 (some .boolean) 6 0 0 E [(g, 1), (r + 6, 2)] [.ref g, .int (zI c), .int (zI c2)] (fun H => PR E g [(g, .inr (8, [.ref d, .int (zI pos), .int (zI siz), .ref r, .ref (r + 2), .ref (r + 4), .ref (r + 6), .ref (r + 8)]))] H ∧ PR E d [(d, .inr (1, [.ref v, .int (zI 0), .int (zI ml), .int (zI n)]))] H ∧ PR E v [(v, .inl (E 102 2, N, .inl (zA f)))] H ∧ PR E (r + 6) (rowW E (r + 6) 8 gt) H) (fun rv H => (rv = some (.int (zI (bz (sgZ f n pos = c ∨ sgZ f n pos = c2))))) ∧ (PR E g [(g, .inr (8, [.ref d, .int (zI (if sgZ f n pos = c ∨ sgZ f n pos = c2 then pos + 1 else pos)), .int (zI siz), .ref r, .ref (r + 2), .ref (r + 4), .ref (r + 6), .ref (r + 8)]))] H) ∧ PR E (r + 6) (rowW E (r + 6) 8 (updZ gt siz (if sgZ f n pos = c then 1 else 0))) H) := by
  refine Mu.start (own := RX5) rfl (by decide +kernel) (Nat.le_of_ble_eq_true rfl) ?_
  intro p e s m below meth cd args Q hQ X hr hlk hnm hM hPr
  obtain ⟨h_pg, h_sb, h_sa, h_rw⟩ := hPr
  have hsb := sgZ_b hf n pos
  refine v_aload_n X dX5_readFlag_0 1 rfl 0 rfl ?_
  refine v_aload_n X dX5_readFlag_1 2 rfl 0 rfl ?_
  refine v_getf X hM.C h_pg.1 inX5 0 rfl rfl 1 (by decide) kf_X5_18 (fun _ h => h) rfl dX5_readFlag_2 5 rfl ?_
  show V p l e (rmL 6 0 0) s m args below meth cd Q 4 s.heap [] 0 0 5 [(0, .ref g), (1, .int (zI c)), (2, .int (zI c2))] [.int (zI pos), .ref g]
  refine v_rdV X hM.C (PW.app (PW.app h_pg.1 h_sb.1) h_sa.1) (c_X5_signAt l E g d r v N f pos siz ml n pos n0 n1 N1 hf (by omega)) kvX5_signAt kiX5_signAt kl_X5_76 rfl rfl (As := [.int (zI pos)]) rfl rfl rfl dX5_readFlag_5 8 rfl ?_
  show V p l e (rmL 6 0 0) s m args below meth cd Q 4 s.heap [] 0 0 8 [(0, .ref g), (1, .int (zI c)), (2, .int (zI c2))] [.int (zI (sgZ f n pos))]
  refine v_iload_n X dX5_readFlag_8 9 rfl 1 rfl ?_
  refine v_icmp_ne X (by omega) (by omega) dX5_readFlag_9 12 16 rfl (by decide) (fun c_1 => ?_) (fun c_1 => ?_)
  · skip
    refine v_iconst X dX5_readFlag_16 17 rfl ?_
    refine v_istore_n X dX5_readFlag_17 18 rfl rfl (by decide) (L' := [(3, .int (zI 0)), (0, .ref g), (1, .int (zI c)), (2, .int (zI c2))]) rfl ?_
    refine v_aload_n X dX5_readFlag_18 19 rfl 1 rfl ?_
    refine v_getf X hM.C h_pg.1 inX5 0 rfl rfl 6 (by decide) kf_X5_40 (fun _ h => h) rfl dX5_readFlag_19 22 rfl ?_
    refine v_aload_n X dX5_readFlag_22 23 rfl 1 rfl ?_
    refine v_getf X hM.C h_pg.1 inX5 0 rfl rfl 2 (by decide) kf_X5_22 (fun _ h => h) rfl dX5_readFlag_23 26 rfl ?_
    show V p l e (rmL 6 0 0) s m args below meth cd Q 4 s.heap [] 0 0 26 [(3, .int (zI 0)), (0, .ref g), (1, .int (zI c)), (2, .int (zI c2))] [.int (zI siz), .ref (r + 6)]
    refine v_iload_n X dX5_readFlag_26 27 rfl 0 rfl ?_
    refine v_if_eq X (by omega) dX5_readFlag_27 30 34 rfl (by decide) (fun c_2 => ?_) (fun c_2 => ?_)
    · skip
      refine v_iconst X dX5_readFlag_34 35 rfl ?_
      refine v_muV X hM (h_rw.1) (c_X6_put l E (r + 6) 8 gt siz 0 s0 s1 (by omega)) kvX6_put kiX6_put kl_X5_54 (q0 := 0) rfl rfl (As := [.int (zI siz), .int (zI 0)]) rfl rfl rfl dX5_readFlag_35 38 rfl (k' := 0) (n' := 0) rfl rfl (fsI (fun q q1 q2 => (Or.inl (fsT (fsH (by omega) (by omega)))))) h_rw (fun rv H3 lo3 hM hF hpo => ?_)
      obtain ⟨rfl, hw_0⟩ := hpo
      have h_rw : PR E (r + 6) (rowW E (r + 6) 8 (updZ gt siz 0)) H3 := hw_0
      replace h_pg := h_pg.kept hF 1 rfl (fsd (by omega))
      replace h_sb := h_sb.kept hF 1 rfl (fsd (by omega))
      replace h_sa := h_sa.kept hF 1 rfl (fsd (by omega))
      show V p l e (rmL 6 0 0) s m args below meth cd Q 4 H3 lo3 0 0 38 [(3, .int (zI 0)), (0, .ref g), (1, .int (zI c)), (2, .int (zI c2))] []
      refine v_aload_n X dX5_readFlag_38 39 rfl 1 rfl ?_
      refine v_iload_n X dX5_readFlag_39 40 rfl 0 rfl ?_
      refine v_if_eq X (by omega) dX5_readFlag_40 43 47 rfl (by decide) (fun c_4 => ?_) (fun c_4 => ?_)
      · skip
        refine v_iload_n X dX5_readFlag_47 48 rfl 3 rfl ?_
        refine v_muV X hM (h_pg.1) (c_X5_readSign l E g d r v N f pos siz ml n c2 n0 n1 N1 hf p0 p1 c20 c21 hd_pg_sb hd_pg_sa) kvX5_readSign kiX5_readSign kl_X5_61 (q0 := 0) rfl rfl (As := [.int (zI c2)]) rfl rfl rfl dX5_readFlag_48 51 rfl (k' := 0) (n' := 0) rfl rfl (fsI (fun q q1 q2 => (Or.inl (fsH (by omega) (by omega))))) ⟨h_pg, h_sb, h_sa⟩ (fun rv H5 lo5 hM hF hpo => ?_)
        obtain ⟨rfl, hw_0⟩ := hpo
        have h_pg : PR E g [(g, .inr (8, [.ref d, .int (zI (if sgZ f n pos = c2 then pos + 1 else pos)), .int (zI siz), .ref r, .ref (r + 2), .ref (r + 4), .ref (r + 6), .ref (r + 8)]))] H5 := hw_0
        replace h_sb := h_sb.kept hF 1 rfl (fsd (by omega))
        replace h_sa := h_sa.kept hF 1 rfl (fsd (by omega))
        replace h_rw := h_rw.kept hF 2 rfl (fsd (by omega))
        show V p l e (rmL 6 0 0) s m args below meth cd Q 4 H5 lo5 0 0 51 [(3, .int (zI 0)), (0, .ref g), (1, .int (zI c)), (2, .int (zI c2))] [.int (zI (bz (sgZ f n pos = c2)))]
        subst hQ; exact m_zret X hr hlk hM dX5_readFlag_51 rfl bz_01 ⟨(sv (Eq.symm (bz_iff (by omega)))), (PR.to h_pg (by by_cases qq : sgZ f n pos = c2 <;> first | rw [if_pos (by omega), if_pos (by omega)] | rw [if_neg (by omega), if_neg (by omega)])), (PR.to h_rw (by first | rw [if_pos (by omega)] | rw [if_neg (by omega)]))⟩
      · skip
        exfalso; omega
    · skip
      exfalso; omega
  · skip
    refine v_iconst X dX5_readFlag_12 13 rfl ?_
    refine v_goto X dX5_readFlag_13 17 (by decide) ?_
    refine v_istore_n X dX5_readFlag_17 18 rfl rfl (by decide) (L' := [(3, .int (zI 1)), (0, .ref g), (1, .int (zI c)), (2, .int (zI c2))]) rfl ?_
    refine v_aload_n X dX5_readFlag_18 19 rfl 1 rfl ?_
    refine v_getf X hM.C h_pg.1 inX5 0 rfl rfl 6 (by decide) kf_X5_40 (fun _ h => h) rfl dX5_readFlag_19 22 rfl ?_
    refine v_aload_n X dX5_readFlag_22 23 rfl 1 rfl ?_
    refine v_getf X hM.C h_pg.1 inX5 0 rfl rfl 2 (by decide) kf_X5_22 (fun _ h => h) rfl dX5_readFlag_23 26 rfl ?_
    show V p l e (rmL 6 0 0) s m args below meth cd Q 4 s.heap [] 0 0 26 [(3, .int (zI 1)), (0, .ref g), (1, .int (zI c)), (2, .int (zI c2))] [.int (zI siz), .ref (r + 6)]
    refine v_iload_n X dX5_readFlag_26 27 rfl 0 rfl ?_
    refine v_if_eq X (by omega) dX5_readFlag_27 30 34 rfl (by decide) (fun c_6 => ?_) (fun c_6 => ?_)
    · skip
      exfalso; omega
    · skip
      refine v_iconst X dX5_readFlag_30 31 rfl ?_
      refine v_goto X dX5_readFlag_31 35 (by decide) ?_
      refine v_muV X hM (h_rw.1) (c_X6_put l E (r + 6) 8 gt siz 1 s0 s1 (by omega)) kvX6_put kiX6_put kl_X5_54 (q0 := 0) rfl rfl (As := [.int (zI siz), .int (zI 1)]) rfl rfl rfl dX5_readFlag_35 38 rfl (k' := 0) (n' := 0) rfl rfl (fsI (fun q q1 q2 => (Or.inl (fsT (fsH (by omega) (by omega)))))) h_rw (fun rv H7 lo7 hM hF hpo => ?_)
      obtain ⟨rfl, hw_0⟩ := hpo
      have h_rw : PR E (r + 6) (rowW E (r + 6) 8 (updZ gt siz 1)) H7 := hw_0
      replace h_pg := h_pg.kept hF 1 rfl (fsd (by omega))
      replace h_sb := h_sb.kept hF 1 rfl (fsd (by omega))
      replace h_sa := h_sa.kept hF 1 rfl (fsd (by omega))
      show V p l e (rmL 6 0 0) s m args below meth cd Q 4 H7 lo7 0 0 38 [(3, .int (zI 1)), (0, .ref g), (1, .int (zI c)), (2, .int (zI c2))] []
      refine v_aload_n X dX5_readFlag_38 39 rfl 1 rfl ?_
      refine v_iload_n X dX5_readFlag_39 40 rfl 0 rfl ?_
      refine v_if_eq X (by omega) dX5_readFlag_40 43 47 rfl (by decide) (fun c_8 => ?_) (fun c_8 => ?_)
      · skip
        exfalso; omega
      · skip
        refine v_iload_n X dX5_readFlag_43 44 rfl 2 rfl ?_
        refine v_goto X dX5_readFlag_44 48 (by decide) ?_
        refine v_muV X hM (h_pg.1) (c_X5_readSign l E g d r v N f pos siz ml n c n0 n1 N1 hf p0 p1 c0 c1 hd_pg_sb hd_pg_sa) kvX5_readSign kiX5_readSign kl_X5_61 (q0 := 0) rfl rfl (As := [.int (zI c)]) rfl rfl rfl dX5_readFlag_48 51 rfl (k' := 0) (n' := 0) rfl rfl (fsI (fun q q1 q2 => (Or.inl (fsH (by omega) (by omega))))) ⟨h_pg, h_sb, h_sa⟩ (fun rv H9 lo9 hM hF hpo => ?_)
        obtain ⟨rfl, hw_0⟩ := hpo
        have h_pg : PR E g [(g, .inr (8, [.ref d, .int (zI (if sgZ f n pos = c then pos + 1 else pos)), .int (zI siz), .ref r, .ref (r + 2), .ref (r + 4), .ref (r + 6), .ref (r + 8)]))] H9 := hw_0
        replace h_sb := h_sb.kept hF 1 rfl (fsd (by omega))
        replace h_sa := h_sa.kept hF 1 rfl (fsd (by omega))
        replace h_rw := h_rw.kept hF 2 rfl (fsd (by omega))
        show V p l e (rmL 6 0 0) s m args below meth cd Q 4 H9 lo9 0 0 51 [(3, .int (zI 1)), (0, .ref g), (1, .int (zI c)), (2, .int (zI c2))] [.int (zI (bz (sgZ f n pos = c)))]
        subst hQ; exact m_zret X hr hlk hM dX5_readFlag_51 rfl bz_01 ⟨(sv (Eq.symm (bz_iff (by omega)))), (PR.to h_pg (by by_cases qq : sgZ f n pos = c2 <;> first | rw [if_pos (by omega), if_pos (by omega)] | rw [if_neg (by omega), if_neg (by omega)])), (PR.to h_rw (by first | rw [if_pos (by omega)] | rw [if_neg (by omega)]))⟩
