abbrev PaR := Int × Int × Int × (Nat → Int → Int)
/-- after the keyword and its arguments -/
abbrev paC (f : Int → Int) (n po si : Int) (pr : Nat → Int → Int) : Nat → Int → Int := updC (arC f n (po + fwZ f n po (bkZ f n po 7)) si (kkZ f n po) pr) 1 (updZ (arC f n (po + fwZ f n po (bkZ f n po 7)) si (kkZ f n po) pr 1) si (kkZ f n po))
abbrev paE (f : Int → Int) (n po : Int) : Int := arP f n (po + fwZ f n po (bkZ f n po 7)) (kkZ f n po)
/-- the parser: answer, position, size, rows -/
def paF (f : Int → Int) (n : Int) : Nat → Int → Int → (Nat → Int → Int) → PaR
  | 0, po, si, pr => (0, po, si, pr)
  | m + 1, po, si, pr =>
    if kkZ f n po = -1 then (0, po + fwZ f n po (bkZ f n po 7), si, pr)
    else if arQ f n (po + fwZ f n po (bkZ f n po 7)) (kkZ f n po) then
      (if paE f n po = n then (1, paE f n po, si + 1, paC f n po si pr)
       else if sgZ f n (paE f n po) = 59 then paF f n m (paE f n po + 1) (si + 1) (paC f n po si pr)
       else (0, paE f n po, si + 1, paC f n po si pr))
    else (0, paE f n po, si, arC f n (po + fwZ f n po (bkZ f n po 7)) si (kkZ f n po) pr)
theorem paF_1 {f : Int → Int} {n : Int} {m : Nat} {po si : Int} {pr : Nat → Int → Int} (h : kkZ f n po = -1) : paF f n (m + 1) po si pr = (0, po + fwZ f n po (bkZ f n po 7), si, pr) := by
  rw [paF, if_pos h]
theorem paF_2 {f : Int → Int} {n : Int} {m : Nat} {po si : Int} {pr : Nat → Int → Int} (h : ¬ kkZ f n po = -1) (h2 : ¬ arQ f n (po + fwZ f n po (bkZ f n po 7)) (kkZ f n po)) : paF f n (m + 1) po si pr = (0, paE f n po, si, arC f n (po + fwZ f n po (bkZ f n po 7)) si (kkZ f n po) pr) := by
  rw [paF, if_neg h, if_neg h2]
theorem paF_3 {f : Int → Int} {n : Int} {m : Nat} {po si : Int} {pr : Nat → Int → Int} (h : ¬ kkZ f n po = -1) (h2 : arQ f n (po + fwZ f n po (bkZ f n po 7)) (kkZ f n po)) (h3 : paE f n po = n) : paF f n (m + 1) po si pr = (1, paE f n po, si + 1, paC f n po si pr) := by
  rw [paF, if_neg h, if_pos h2, if_pos h3]
theorem paF_4 {f : Int → Int} {n : Int} {m : Nat} {po si : Int} {pr : Nat → Int → Int} (h : ¬ kkZ f n po = -1) (h2 : arQ f n (po + fwZ f n po (bkZ f n po 7)) (kkZ f n po)) (h3 : ¬ paE f n po = n) (h4 : sgZ f n (paE f n po) = 59) : paF f n (m + 1) po si pr = paF f n m (paE f n po + 1) (si + 1) (paC f n po si pr) := by
  rw [paF, if_neg h, if_pos h2, if_neg h3, if_pos h4]
theorem paF_5 {f : Int → Int} {n : Int} {m : Nat} {po si : Int} {pr : Nat → Int → Int} (h : ¬ kkZ f n po = -1) (h2 : arQ f n (po + fwZ f n po (bkZ f n po 7)) (kkZ f n po)) (h3 : ¬ paE f n po = n) (h4 : ¬ sgZ f n (paE f n po) = 59) : paF f n (m + 1) po si pr = (0, paE f n po, si + 1, paC f n po si pr) := by
  rw [paF, if_neg h, if_pos h2, if_neg h3, if_neg h4]
theorem kkZ_b (f : Int → Int) (n po : Int) : -1 ≤ kkZ f n po ∧ kkZ f n po < 7 := by
  have := bkZ_b f n po 7
  unfold kkZ
  split <;> omega
/-- a keyword that fits has at least six letters -/
theorem kkZ_len {f : Int → Int} {n po : Int} (h : ¬ kkZ f n po = -1) : 6 ≤ fwZ f n po (bkZ f n po 7) ∧ fwZ f n po (bkZ f n po 7) ≤ 9 := by
  have hb := bkZ_b f n po 7
  have h1 := kwLen_b (q := bkZ f n po 7) (by omega)
  unfold kkZ at h
  split at h
  · omega
  · exact absurd rfl h
theorem fwZ_7 (f : Int → Int) (n po : Int) : 0 ≤ fwZ f n po (bkZ f n po 7) ∧ fwZ f n po (bkZ f n po 7) ≤ 9 := by
  have hb := bkZ_b f n po 7
  have h1 := kwLen_b (q := bkZ f n po 7) (by omega)
  have h2 := fwZ_b f n po (q := bkZ f n po 7) (by omega)
  omega
theorem sgZ_lt {f : Int → Int} {n i : Int} (h : ¬ sgZ f n i = 0) : 0 ≤ i ∧ i < n := by
  unfold sgZ at h
  split at h
  · assumption
  · exact absurd rfl h
theorem arP_ok {f : Int → Int} {n pos k : Int} (h : arQ f n pos k) : pos + 1 ≤ arP f n pos k := by
  have h1 := nuP_b f n pos
  have h2 := cwP_b f n pos
  unfold arQ at h
  unfold arP
  by_cases k0 : k = 0
  · rw [if_pos k0] at h ⊢
    obtain ⟨a, b, c⟩ := h
    unfold chP
    rw [if_pos a, if_pos b, if_pos c]
    omega
  rw [if_neg k0] at h ⊢
  by_cases k2 : k = 2
  · rw [if_pos k2] at h
    rw [if_neg (by omega), if_pos k2]
    obtain ⟨a, b, c⟩ := h
    unfold teP
    rw [if_pos a, if_pos b, if_pos c]
    omega
  rw [if_neg k2] at h
  by_cases k3 : k = 3
  · rw [if_pos k3] at h
    rw [if_neg (by omega), if_neg k2, if_pos k3]
    obtain ⟨a, b⟩ := h
    unfold quP
    rw [if_pos a, if_pos b]
    omega
  rw [if_neg k3] at h
  by_cases k1 : k = 1
  · rw [if_pos k1]
    unfold dgP
    rw [if_pos h]
    omega
  · rw [if_neg k1, if_neg k2, if_neg k3]
    unfold nuP
    rw [if_pos h]
    split <;> omega
set_option maxHeartbeats 4000000 in
set_option maxRecDepth 20000 in
theorem c_X5_parse (l : Launch) (E : Nat → Nat → Nat) (g : Nat) (d : Nat) (r : Nat) (v : Nat) (N : Nat) (f : Int → Int) (pos : Int) (siz : Int) (ml : Int) (n : Int) (pr : Nat → Int → Int) (n0 : 0 ≤ n) (n1 : n ≤ (N : Int)) (N1 : N < 1000) (hf : ∀ j : Int, 0 ≤ f j ∧ f j < 128) (n60 : n ≤ 60) (Rp : Rg pos) (Rs : Rg siz) (hd_pg_sb : g + 1 ≤ d ∨ d + 1 ≤ g) (hd_pg_sa : g + 1 ≤ v ∨ v + 1 ≤ g) (hd_pg_pr : g + 1 ≤ r ∨ r + 10 ≤ g) (hd_sb_pr : d + 1 ≤ r ∨ r + 10 ≤ d) (hd_sa_pr : v + 1 ≤ r ∨ r + 10 ≤ v) : Mu l yX5_parse cX5_parse 3 (some .boolean) 9 0 0 E [(g, 1), (r, 10)] [.ref g] (fun H => PR E g [(g, .inr (8, [.ref d, .int (zI pos), .int (zI siz), .ref r, .ref (r + 2), .ref (r + 4), .ref (r + 6), .ref (r + 8)]))] H ∧ PR E d [(d, .inr (1, [.ref v, .int (zI 0), .int (zI ml), .int (zI n)]))] H ∧ PR E v [(v, .inl (E 102 2, N, .inl (zA f)))] H ∧ PR E r (prowsW E r pr) H) (fun rv H => rv = some (.int (zI (bz ((paF f n 61 0 0 pr).1 = 1)))) ∧ PR E g [(g, .inr (8, [.ref d, .int (zI ((paF f n 61 0 0 pr).2.1)), .int (zI ((paF f n 61 0 0 pr).2.2.1)), .ref r, .ref (r + 2), .ref (r + 4), .ref (r + 6), .ref (r + 8)]))] H ∧ PR E r (prowsW E r ((paF f n 61 0 0 pr).2.2.2)) H) := by
  refine Mu.start (own := RX5) rfl (by decide +kernel) (Nat.le_of_ble_eq_true rfl) ?_
  intro p e s m below meth cd args Q hQ X hr hlk hnm hM hPr
  obtain ⟨h_pg, h_sb, h_sa, h_pr⟩ := hPr
  refine v_aload_n X dX5_parse_0 1 rfl 0 rfl ?_
  refine v_iconst X dX5_parse_1 2 rfl ?_
  refine v_putf X hM h_pg ftX5 0 rfl rfl 1 (by decide) kf_X5_18 (fun _ h => h) rfl rfl rfl (Nat.le_of_ble_eq_true rfl) (Or.inl (fsH (by omega) (by omega))) dX5_parse_2 5 rfl (ws' := [(g, .inr (8, [.ref d, .int (zI 0), .int (zI siz), .ref r, .ref (r + 2), .ref (r + 4), .ref (r + 6), .ref (r + 8)]))]) rfl (fun H1 lo1 hzz hM hF h_pg => ?_)
  clear hzz
  replace h_sb := h_sb.kept hF 1 rfl (fsd (by omega))
  replace h_sa := h_sa.kept hF 1 rfl (fsd (by omega))
  replace h_pr := h_pr.kept hF 10 rfl (fsd (by omega))
  refine v_aload_n X dX5_parse_5 6 rfl 0 rfl ?_
  refine v_iconst X dX5_parse_6 7 rfl ?_
  refine v_putf X hM h_pg ftX5 0 rfl rfl 2 (by decide) kf_X5_22 (fun _ h => h) rfl rfl rfl (Nat.le_of_ble_eq_true rfl) (Or.inl (fsH (by omega) (by omega))) dX5_parse_7 10 rfl (ws' := [(g, .inr (8, [.ref d, .int (zI 0), .int (zI 0), .ref r, .ref (r + 2), .ref (r + 4), .ref (r + 6), .ref (r + 8)]))]) rfl (fun H2 lo2 hzz hM hF h_pg => ?_)
  clear hzz
  replace h_sb := h_sb.kept hF 1 rfl (fsd (by omega))
  replace h_sa := h_sa.kept hF 1 rfl (fsd (by omega))
  replace h_pr := h_pr.kept hF 10 rfl (fsd (by omega))
  refine v_iconst X dX5_parse_10 11 rfl ?_
  refine v_istore_n X dX5_parse_11 12 rfl rfl (by decide) (L' := [(1, .int (zI 0)), (0, .ref g)]) rfl ?_
  refine V_L (L' := [(1, .int (zI 0)), (0, .ref g)]) (LC rfl (LC rfl rfl)) ?_
  refine up_loop 61 (P := fun (i : Nat) => ∀ (po : Int), ∀ (si : Int), ∀ (pq : Nat → Int → Int), (paF f n (61 - i) po si pq = paF f n 61 0 0 pr) → (0 ≤ po ∧ po ≤ n) → (si = (i : Int) ∧ 8 * si ≤ po) → ∀ (H : Heap) (lo : List Loc), MS E [(g, 1), (r, 10)] s H lo → PR E g [(g, .inr (8, [.ref d, .int (zI po), .int (zI si), .ref r, .ref (r + 2), .ref (r + 4), .ref (r + 6), .ref (r + 8)]))] H → PR E d [(d, .inr (1, [.ref v, .int (zI 0), .int (zI ml), .int (zI n)]))] H → PR E v [(v, .inl (E 102 2, N, .inl (zA f)))] H → PR E r (prowsW E r pq) H → V p l e (rmL 9 0 0) s m args below meth cd Q 3 H lo 0 0 12 [(1, .int (zI (i : Int))), (0, .ref g)] []) (fun i hi_i ih_i po si pq hpa hpo hsi H3 lo3 hM h_pg h_sb h_sa h_pr => ?_) 0 0 pr rfl (by omega) (by omega) _ _ hM h_pg h_sb h_sa h_pr
  have hkz := kkZ_b f n po
  have hf7 := fwZ_7 f n po
  have hap := arP_b f n (po + fwZ f n po (bkZ f n po 7)) (kkZ f n po)
  refine v_iload_n X dX5_parse_12 13 rfl 0 rfl ?_
  refine v_bipush X dX5_parse_13 15 rfl rfl ?_
  refine v_icmp_gt X (by omega) (by omega) dX5_parse_15 18 93 rfl (by decide) (fun c_4 => ?_) (fun c_4 => ?_)
  · skip
    exfalso; omega
  · skip
    refine v_aload_n X dX5_parse_18 19 rfl 1 rfl ?_
    refine v_muV X hM (h_pg.1) (c_X5_readKeyword l E g d r v N f po si ml n n0 n1 N1 hf (by omega) (by omega) hd_pg_sb hd_pg_sa) kvX5_readKeyword kiX5_readKeyword kl_X5_46 (q0 := 0) rfl rfl (As := []) rfl rfl rfl dX5_parse_19 22 rfl (k' := 0) (n' := 0) rfl rfl (fsI (fun q q1 q2 => (Or.inl (fsH (by omega) (by omega))))) ⟨h_pg, h_sb, h_sa⟩ (fun rv H5 lo5 hM hF hpo => ?_)
    obtain ⟨rfl, hw_0⟩ := hpo
    have h_pg : PR E g [(g, .inr (8, [.ref d, .int (zI (po + fwZ f n po (bkZ f n po 7))), .int (zI si), .ref r, .ref (r + 2), .ref (r + 4), .ref (r + 6), .ref (r + 8)]))] H5 := hw_0
    replace h_sb := h_sb.kept hF 1 rfl (fsd (by omega))
    replace h_sa := h_sa.kept hF 1 rfl (fsd (by omega))
    replace h_pr := h_pr.kept hF 10 rfl (fsd (by omega))
    show V p l e (rmL 9 0 0) s m args below meth cd Q 3 H5 lo5 0 0 22 [(1, .int (zI (i : Int))), (0, .ref g)] [.int (zI (kkZ f n po))]
    refine v_istore_n X dX5_parse_22 23 rfl rfl (by decide) (L' := [(2, .int (zI (kkZ f n po))), (1, .int (zI (i : Int))), (0, .ref g)]) rfl ?_
    refine v_iload_n X dX5_parse_23 24 rfl 0 rfl ?_
    refine v_iconst X dX5_parse_24 25 rfl ?_
    refine v_icmp_eq X (by omega) (by omega) dX5_parse_25 28 36 rfl (by decide) (fun c_6 => ?_) (fun c_6 => ?_)
    · skip
      have hfin : paF f n 61 0 0 pr = (0, po + fwZ f n po (bkZ f n po 7), si, pq) := by rw [← hpa, show 61 - i = (60 - i) + 1 by omega]; exact paF_1 (by assumption)
      refine v_iconst X dX5_parse_36 37 rfl ?_
      subst hQ; exact m_zret X hr hlk hM dX5_parse_37 rfl (by omega) ⟨(sv (bz_f (by first | (rw [hfin]; done) | (rw [hfin]; intro z; exact absurd (show (0 : Int) = 1 from z) (by decide))))), (PR.to h_pg (by rw [hfin])), (PR.to h_pr (by rw [hfin]))⟩
    · skip
      have hkl := kkZ_len (by assumption)
      refine v_aload_n X dX5_parse_28 29 rfl 2 rfl ?_
      refine v_iload_n X dX5_parse_29 30 rfl 0 rfl ?_
      refine v_muV X hM (h_pg.1) (c_X5_readArguments l E g d r v N f (po + fwZ f n po (bkZ f n po 7)) si ml n pq (kkZ f n po) n0 n1 N1 hf (by omega) (by omega) (by omega) (by omega) (by omega) (by omega) (by omega) hd_pg_sb hd_pg_sa hd_pg_pr hd_sb_pr hd_sa_pr) kvX5_readArguments kiX5_readArguments kl_X5_50 (q0 := 0) rfl rfl (As := [.int (zI (kkZ f n po))]) rfl rfl rfl dX5_parse_30 33 rfl (k' := 0) (n' := 0) rfl rfl (by intro q hq; simp only [Fr, Fs, or_false, false_or] at hq ⊢; omega) ⟨h_pg, h_sb, h_sa, h_pr⟩ (fun rv H7 lo7 hM hF hpo => ?_)
      obtain ⟨rfl, hw_0, hw_1⟩ := hpo
      have h_pg : PR E g [(g, .inr (8, [.ref d, .int (zI (arP f n (po + fwZ f n po (bkZ f n po 7)) (kkZ f n po))), .int (zI si), .ref r, .ref (r + 2), .ref (r + 4), .ref (r + 6), .ref (r + 8)]))] H7 := hw_0
      have h_pr : PR E r (prowsW E r (arC f n (po + fwZ f n po (bkZ f n po 7)) si (kkZ f n po) pq)) H7 := hw_1
      replace h_sb := h_sb.kept hF 1 rfl (by intro q q1 q2 q3; simp only [Fs, or_false] at q3; omega)
      replace h_sa := h_sa.kept hF 1 rfl (by intro q q1 q2 q3; simp only [Fs, or_false] at q3; omega)
      show V p l e (rmL 9 0 0) s m args below meth cd Q 3 H7 lo7 0 0 33 [(2, .int (zI (kkZ f n po))), (1, .int (zI (i : Int))), (0, .ref g)] [.int (zI (bz (arQ f n (po + fwZ f n po (bkZ f n po 7)) (kkZ f n po))))]
      refine v_bif_ne X dX5_parse_33 36 38 rfl (by decide) (fun c_8 => ?_) (fun c_8 => ?_)
      · skip
        have hao := arP_ok (by assumption)
        refine v_aload_n X dX5_parse_38 39 rfl 2 rfl ?_
        refine v_getf X hM.C h_pg.1 inX5 0 rfl rfl 3 (by decide) kf_X5_30 (fun _ h => h) rfl dX5_parse_39 42 rfl ?_
        refine v_aload_n X dX5_parse_42 43 rfl 2 rfl ?_
        refine v_getf X hM.C h_pg.1 inX5 0 rfl rfl 2 (by decide) kf_X5_22 (fun _ h => h) rfl dX5_parse_43 46 rfl ?_
        show V p l e (rmL 9 0 0) s m args below meth cd Q 3 H7 lo7 0 0 46 [(2, .int (zI (kkZ f n po))), (1, .int (zI (i : Int))), (0, .ref g)] [.int (zI si), .ref r]
        refine v_iload_n X dX5_parse_46 47 rfl 0 rfl ?_
        refine v_muV X hM (h_pr.1) (c_X6_put l E r 8 ((arC f n (po + fwZ f n po (bkZ f n po 7)) si (kkZ f n po) pq) 1) si (kkZ f n po) (by omega) (by omega) (by omega)) kvX6_put kiX6_put kl_X5_54 (q0 := 0) rfl rfl (As := [.int (zI si), .int (zI (kkZ f n po))]) rfl rfl rfl dX5_parse_47 50 rfl (k' := 0) (n' := 0) rfl rfl (fsI (fun q q1 q2 => (Or.inl (fsT (fsH (by omega) (by omega)))))) (h_pr.sub 0 2 rfl (wc := rowW E r 8 ((arC f n (po + fwZ f n po (bkZ f n po 7)) si (kkZ f n po) pq) 1)) rfl) (fun rv H9 lo9 hM hF hpo => ?_)
        obtain ⟨rfl, hw_0⟩ := hpo
        have h_pr := h_pr.join 0 2 rfl hw_0 hF rfl (Nat.le_of_ble_eq_true rfl) (ws' := prowsW E r (updC (arC f n (po + fwZ f n po (bkZ f n po 7)) si (kkZ f n po) pq) 1 (updZ ((arC f n (po + fwZ f n po (bkZ f n po 7)) si (kkZ f n po) pq) 1) si (kkZ f n po)))) rfl
        replace h_pg := h_pg.kept hF 1 rfl (fsd (by omega))
        replace h_sb := h_sb.kept hF 1 rfl (fsd (by omega))
        replace h_sa := h_sa.kept hF 1 rfl (fsd (by omega))
        show V p l e (rmL 9 0 0) s m args below meth cd Q 3 H9 lo9 0 0 50 [(2, .int (zI (kkZ f n po))), (1, .int (zI (i : Int))), (0, .ref g)] []
        refine v_aload_n X dX5_parse_50 51 rfl 2 rfl ?_
        refine v_dup X dX5_parse_51 52 rfl rfl ?_
        refine v_getf X hM.C h_pg.1 inX5 0 rfl rfl 2 (by decide) kf_X5_22 (fun _ h => h) rfl dX5_parse_52 55 rfl ?_
        show V p l e (rmL 9 0 0) s m args below meth cd Q 3 H9 lo9 0 0 55 [(2, .int (zI (kkZ f n po))), (1, .int (zI (i : Int))), (0, .ref g)] [.int (zI si), .ref g]
        refine v_iconst X dX5_parse_55 56 rfl ?_
        refine v_iadd X dX5_parse_56 57 rfl ?_
        refine v_putf X hM h_pg ftX5 0 rfl rfl 2 (by decide) kf_X5_22 (fun _ h => h) rfl rfl rfl (Nat.le_of_ble_eq_true rfl) (Or.inl (fsH (by omega) (by omega))) dX5_parse_57 60 rfl (ws' := [(g, .inr (8, [.ref d, .int (zI (arP f n (po + fwZ f n po (bkZ f n po 7)) (kkZ f n po))), .int (zI (si + 1)), .ref r, .ref (r + 2), .ref (r + 4), .ref (r + 6), .ref (r + 8)]))]) rfl (fun H10 lo10 hzz hM hF h_pg => ?_)
        clear hzz
        replace h_sb := h_sb.kept hF 1 rfl (fsd (by omega))
        replace h_sa := h_sa.kept hF 1 rfl (fsd (by omega))
        replace h_pr := h_pr.kept hF 10 rfl (fsd (by omega))
        refine v_aload_n X dX5_parse_60 61 rfl 2 rfl ?_
        refine v_getf X hM.C h_pg.1 inX5 0 rfl rfl 1 (by decide) kf_X5_18 (fun _ h => h) rfl dX5_parse_61 64 rfl ?_
        show V p l e (rmL 9 0 0) s m args below meth cd Q 3 H10 lo10 0 0 64 [(2, .int (zI (kkZ f n po))), (1, .int (zI (i : Int))), (0, .ref g)] [.int (zI (arP f n (po + fwZ f n po (bkZ f n po 7)) (kkZ f n po)))]
        refine v_aload_n X dX5_parse_64 65 rfl 2 rfl ?_
        refine v_getf X hM.C h_pg.1 inX5 0 rfl rfl 0 (by decide) kf_X5_12 (fun _ h => h) rfl dX5_parse_65 68 rfl ?_
        refine v_rdV X hM.C h_sb.1 (c_J4_length_8abf5 l E d v ml n) kvJ4_length_8abf5 kiJ4_length_8abf5 kl_X5_58 rfl rfl (As := []) rfl rfl rfl dX5_parse_68 71 rfl ?_
        show V p l e (rmL 9 0 0) s m args below meth cd Q 3 H10 lo10 0 0 71 [(2, .int (zI (kkZ f n po))), (1, .int (zI (i : Int))), (0, .ref g)] [.int (zI n), .int (zI (arP f n (po + fwZ f n po (bkZ f n po 7)) (kkZ f n po)))]
        refine v_icmp_ne X (by omega) (by omega) dX5_parse_71 74 76 rfl (by decide) (fun c_11 => ?_) (fun c_11 => ?_)
        · skip
          refine v_aload_n X dX5_parse_76 77 rfl 2 rfl ?_
          refine v_bipush X dX5_parse_77 79 rfl rfl ?_
          refine v_muV X hM (h_pg.1) (c_X5_readSign l E g d r v N f (arP f n (po + fwZ f n po (bkZ f n po 7)) (kkZ f n po)) (si + 1) ml n 59 n0 n1 N1 hf (by omega) (by omega) (by omega) (by omega) hd_pg_sb hd_pg_sa) kvX5_readSign kiX5_readSign kl_X5_61 (q0 := 0) rfl rfl (As := [.int (zI 59)]) rfl rfl rfl dX5_parse_79 82 rfl (k' := 0) (n' := 0) rfl rfl (fsI (fun q q1 q2 => (Or.inl (fsH (by omega) (by omega))))) ⟨h_pg, h_sb, h_sa⟩ (fun rv H12 lo12 hM hF hpo => ?_)
          obtain ⟨rfl, hw_0⟩ := hpo
          have h_pg : PR E g [(g, .inr (8, [.ref d, .int (zI (if sgZ f n (arP f n (po + fwZ f n po (bkZ f n po 7)) (kkZ f n po)) = 59 then (arP f n (po + fwZ f n po (bkZ f n po 7)) (kkZ f n po)) + 1 else (arP f n (po + fwZ f n po (bkZ f n po 7)) (kkZ f n po)))), .int (zI (si + 1)), .ref r, .ref (r + 2), .ref (r + 4), .ref (r + 6), .ref (r + 8)]))] H12 := hw_0
          replace h_sb := h_sb.kept hF 1 rfl (fsd (by omega))
          replace h_sa := h_sa.kept hF 1 rfl (fsd (by omega))
          replace h_pr := h_pr.kept hF 10 rfl (fsd (by omega))
          show V p l e (rmL 9 0 0) s m args below meth cd Q 3 H12 lo12 0 0 82 [(2, .int (zI (kkZ f n po))), (1, .int (zI (i : Int))), (0, .ref g)] [.int (zI (bz (sgZ f n (arP f n (po + fwZ f n po (bkZ f n po 7)) (kkZ f n po)) = 59)))]
          refine v_bif_ne X dX5_parse_82 85 87 rfl (by decide) (fun c_13 => ?_) (fun c_13 => ?_)
          · skip
            rw [if_pos c_13] at h_pg
            replace h_pg : PR E g [(g, .inr (8, [.ref d, .int (zI ((arP f n (po + fwZ f n po (bkZ f n po 7)) (kkZ f n po)) + 1)), .int (zI (si + 1)), .ref r, .ref (r + 2), .ref (r + 4), .ref (r + 6), .ref (r + 8)]))] H12 := h_pg
            have hlt := sgZ_lt (f := f) (n := n) (i := arP f n (po + fwZ f n po (bkZ f n po 7)) (kkZ f n po)) (by omega)
            refine v_iinc X dX5_parse_87 90 rfl 1 rfl (by decide) (L' := [(1, .int (zI ((i : Int) + 1))), (2, .int (zI (kkZ f n po))), (0, .ref g)]) rfl ?_
            refine v_goto X dX5_parse_90 12 (by decide) ?_
            refine v_locals [0, 2] (L' := [(1, .int (zI ((i : Int) + 1))), (0, .ref g)]) rfl ?_
            exact V_L (L' := [(1, .int (zI ((i + 1 : Nat) : Int))), (0, .ref g)]) (LC (vz (by omega)) (LC rfl rfl)) (ih_i (by omega) (arP f n (po + fwZ f n po (bkZ f n po 7)) (kkZ f n po) + 1) (si + 1) (paC f n po si pq) (by rw [← hpa, show 61 - i = (60 - i) + 1 by omega, paF_4 (by assumption) (by assumption) (by assumption) (by assumption), show 61 - (i + 1) = 60 - i by omega]) (by omega) (by omega) _ _ hM h_pg h_sb h_sa h_pr)
          · skip
            rw [if_neg c_13] at h_pg
            replace h_pg : PR E g [(g, .inr (8, [.ref d, .int (zI (arP f n (po + fwZ f n po (bkZ f n po 7)) (kkZ f n po))), .int (zI (si + 1)), .ref r, .ref (r + 2), .ref (r + 4), .ref (r + 6), .ref (r + 8)]))] H12 := h_pg
            have hfin : paF f n 61 0 0 pr = (0, paE f n po, si + 1, paC f n po si pq) := by rw [← hpa, show 61 - i = (60 - i) + 1 by omega]; exact paF_5 (by assumption) (by assumption) (by assumption) (by assumption)
            refine v_iconst X dX5_parse_85 86 rfl ?_
            subst hQ; exact m_zret X hr hlk hM dX5_parse_86 rfl (by omega) ⟨(sv (bz_f (by first | (rw [hfin]; done) | (rw [hfin]; intro z; exact absurd (show (0 : Int) = 1 from z) (by decide))))), (PR.to h_pg (by rw [hfin])), (PR.to h_pr (by rw [hfin]))⟩
        · skip
          have hfin : paF f n 61 0 0 pr = (1, paE f n po, si + 1, paC f n po si pq) := by rw [← hpa, show 61 - i = (60 - i) + 1 by omega]; exact paF_3 (by assumption) (by assumption) (by assumption)
          refine v_iconst X dX5_parse_74 75 rfl ?_
          subst hQ; exact m_zret X hr hlk hM dX5_parse_75 rfl (by omega) ⟨(sv (bz_t (by first | (rw [hfin]; done) | (rw [hfin]; intro z; exact absurd (show (0 : Int) = 1 from z) (by decide))))), (PR.to h_pg (by rw [hfin])), (PR.to h_pr (by rw [hfin]))⟩
      · skip
        have hfin : paF f n 61 0 0 pr = (0, paE f n po, si, arC f n (po + fwZ f n po (bkZ f n po 7)) si (kkZ f n po) pq) := by rw [← hpa, show 61 - i = (60 - i) + 1 by omega]; exact paF_2 (by assumption) (by assumption)
        refine v_iconst X dX5_parse_36 37 rfl ?_
        subst hQ; exact m_zret X hr hlk hM dX5_parse_37 rfl (by omega) ⟨(sv (bz_f (by first | (rw [hfin]; done) | (rw [hfin]; intro z; exact absurd (show (0 : Int) = 1 from z) (by decide))))), (PR.to h_pg (by rw [hfin])), (PR.to h_pr (by rw [hfin]))⟩
