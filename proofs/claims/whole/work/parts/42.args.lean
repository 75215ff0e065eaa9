def cwP (f : Int → Int) (n pos : Int) : Int := if 48 ≤ sgZ f n pos ∧ sgZ f n pos ≤ 57 then (if sgZ f n (nuP f n pos) = 32 then (if 48 ≤ sgZ f n (nuP f n pos + 1) ∧ sgZ f n (nuP f n pos + 1) ≤ 57 then nuP f n pos + 1 + 1 else nuP f n pos + 1) else nuP f n pos) else nuP f n pos
def cwG (f : Int → Int) (n pos siz : Int) (gs : Int → Int) : Int → Int := if 48 ≤ sgZ f n pos ∧ sgZ f n pos ≤ 57 then (if sgZ f n (nuP f n pos) = 32 then (if 48 ≤ sgZ f n (nuP f n pos + 1) ∧ sgZ f n (nuP f n pos + 1) ≤ 57 then updZ gs siz (sgZ f n (nuP f n pos + 1) - 48) else gs) else gs) else gs
abbrev cwQ (f : Int → Int) (n pos : Int) : Prop := (48 ≤ sgZ f n pos ∧ sgZ f n pos ≤ 57) ∧ sgZ f n (nuP f n pos) = 32 ∧ 48 ≤ sgZ f n (nuP f n pos + 1) ∧ sgZ f n (nuP f n pos + 1) ≤ 57
theorem cwP_b (f : Int → Int) (n pos : Int) : pos ≤ cwP f n pos ∧ cwP f n pos ≤ pos + 4 := by
  have := nuP_b f n pos
  unfold cwP
  repeat' split
  all_goals omega
theorem PR.joinG {E : Nat → Nat → Nat} {b : Nat} {ws : va_W} {H H1 : Heap} {rs : List (Nat × Nat)} (h : PR E b ws H) (i n N : Nat) (hN : ws.length = N) {b' : Nat} (hb : b + i = b') {wc ws' : va_W} (hc : PR E b' wc H1) (hF : Fm rs H H1) (hd : ∀ q, b ≤ q → q < b + N → Fs rs q → b' ≤ q ∧ q < b' + n) (hn : wc.length = n) (hi : i ≤ ws.length) (hs : ws.take i ++ (wc ++ ws.drop (i + n)) = ws') : PR E b ws' H1 := by
  subst hb; subst hs; subst hN
  have hti : (ws.take i).length = i := by rw [List.length_take]; omega
  have old : ∀ (k : Nat) (q : Nat × va_E), ws[k]? = some q → (k < i ∨ i + n ≤ k) → va_at (zD E) vwCl q H1 := by
    intro k q hk ho
    have e := h.2 k q hk
    have hl := (List.getElem?_eq_some_iff.mp hk).1
    refine (h.1 k q hk).kept (hF.2 q.1 (h.1 k q hk).lt (fun z => ?_))
    have h9 := hd q.1 (by omega) (by omega) z
    omega
  have key : ∀ (k : Nat) (q : Nat × va_E), (ws.take i ++ (wc ++ ws.drop (i + n)))[k]? = some q → (ws[k]? = some q ∧ (k < i ∨ i + n ≤ k)) ∨ (i ≤ k ∧ wc[k - i]? = some q) := by
    intro k q hk
    by_cases h1 : k < i
    · rw [List.getElem?_append_left (by omega), List.getElem?_take, if_pos h1] at hk
      exact Or.inl ⟨hk, Or.inl h1⟩
    · rw [List.getElem?_append_right (by omega), hti] at hk
      by_cases h2 : k - i < n
      · rw [List.getElem?_append_left (by omega)] at hk
        exact Or.inr ⟨by omega, hk⟩
      · rw [List.getElem?_append_right (by omega), List.getElem?_drop] at hk
        exact Or.inl ⟨by rw [← hk]; congr 1; omega, Or.inr (by omega)⟩
  refine ⟨fun k q hk => ?_, fun k q hk => ?_⟩
  · rcases key k q hk with ⟨h1, h2⟩ | ⟨h1, h2⟩
    · exact old k q h1 h2
    · exact hc.1 _ q h2
  · rcases key k q hk with ⟨h1, -⟩ | ⟨h1, h2⟩
    · exact h.2 k q h1
    · rw [hc.2 _ q h2]; omega
set_option maxHeartbeats 4000000 in
set_option maxRecDepth 20000 in
theorem c_X5_readCaseAndWitness (l : Launch) (E : Nat → Nat → Nat) (g : Nat) (d : Nat) (r : Nat) (v : Nat) (N : Nat) (f : Int → Int) (pos : Int) (siz : Int) (ml : Int) (n : Int) (pr : Nat → Int → Int) (n0 : 0 ≤ n) (n1 : n ≤ (N : Int)) (N1 : N < 1000) (hf : ∀ j : Int, 0 ≤ f j ∧ f j < 128) (p0 : 0 ≤ pos) (p1 : pos ≤ 1000) (s0 : 0 ≤ siz) (s1 : siz < 8) (p2 : pos ≤ 800) (hd_pg_sb : g + 1 ≤ d ∨ d + 1 ≤ g) (hd_pg_sa : g + 1 ≤ v ∨ v + 1 ≤ g) (hd_pg_pr : g + 1 ≤ r ∨ r + 10 ≤ g) (hd_sb_pr : d + 1 ≤ r ∨ r + 10 ≤ d) (hd_sa_pr : v + 1 ≤ r ∨ r + 10 ≤ v) : Mu l yX5_readCaseAndWitness cX5_readCaseAndWitness 1 (some .boolean) 7 0 0 E [(g, 1), (r, 10)] [.ref g] (fun H => PR E g [(g, .inr (8, [.ref d, .int (zI pos), .int (zI siz), .ref r, .ref (r + 2), .ref (r + 4), .ref (r + 6), .ref (r + 8)]))] H ∧ PR E d [(d, .inr (1, [.ref v, .int (zI 0), .int (zI ml), .int (zI n)]))] H ∧ PR E v [(v, .inl (E 102 2, N, .inl (zA f)))] H ∧ PR E r (prowsW E r pr) H) (fun rv H => rv = some (.int (zI (bz (cwQ f n pos)))) ∧ PR E g [(g, .inr (8, [.ref d, .int (zI (cwP f n pos)), .int (zI siz), .ref r, .ref (r + 2), .ref (r + 4), .ref (r + 6), .ref (r + 8)]))] H ∧ PR E r (prowsW E r (updC (updC pr 2 (nuG f n pos siz (pr 2))) 3 (cwG f n pos siz (pr 3)))) H) := by
  refine Mu.start (own := RX5) rfl (by decide +kernel) (Nat.le_of_ble_eq_true rfl) ?_
  intro p e s m below meth cd args Q hQ X hr hlk hnm hM hPr
  obtain ⟨h_pg, h_sb, h_sa, h_pr⟩ := hPr
  have hnb := nuP_b f n pos
  have hsb := sgZ_b hf n pos
  have hsb1 := sgZ_b hf n (nuP f n pos)
  have hsb2 := sgZ_b hf n (nuP f n pos + 1)
  refine v_aload_n X dX5_readCaseAndWitness_0 1 rfl 0 rfl ?_
  refine v_aload_n X dX5_readCaseAndWitness_1 2 rfl 0 rfl ?_
  refine v_getf X hM.C h_pg.1 inX5 0 rfl rfl 4 (by decide) kf_X5_34 (fun _ h => h) rfl dX5_readCaseAndWitness_2 5 rfl ?_
  refine v_muV X hM (h_pg.1) (c_X5_readNumber l E g d r v N f pos siz ml n (r + 2) (pr 2) n0 n1 N1 hf p0 p1 s0 s1 (by omega) hd_pg_sb hd_pg_sa (by omega) (by omega) (by omega)) kvX5_readNumber kiX5_readNumber kl_X5_109 (q0 := 0) rfl rfl (As := [.ref (r + 2)]) rfl rfl rfl dX5_readCaseAndWitness_5 8 rfl (k' := 0) (n' := 0) rfl rfl (by intro q hq; simp only [Fr, Fs, or_false, false_or] at hq ⊢; omega) ⟨h_pg, h_sb, h_sa, (h_pr.sub 2 2 rfl (wc := rowW E (r + 2) 8 (pr 2)) rfl)⟩ (fun rv H1 lo1 hM hF hpo => ?_)
  obtain ⟨rfl, hw_0, hw_1⟩ := hpo
  have h_pg : PR E g [(g, .inr (8, [.ref d, .int (zI (nuP f n pos)), .int (zI siz), .ref r, .ref (r + 2), .ref (r + 4), .ref (r + 6), .ref (r + 8)]))] H1 := hw_0
  have h_pr := h_pr.joinG 2 2 10 rfl rfl hw_1 hF (by intro q q1 q2 q3; simp only [Fs, or_false] at q3; omega) rfl (Nat.le_of_ble_eq_true rfl) (ws' := prowsW E r (updC pr 2 (nuG f n pos siz (pr 2)))) rfl
  replace h_sb := h_sb.kept hF 1 rfl (by intro q q1 q2 q3; simp only [Fs, or_false] at q3; omega)
  replace h_sa := h_sa.kept hF 1 rfl (by intro q q1 q2 q3; simp only [Fs, or_false] at q3; omega)
  show V p l e (rmL 7 0 0) s m args below meth cd Q 1 H1 lo1 0 0 8 [(0, .ref g)] [.int (zI (bz (48 ≤ sgZ f n pos ∧ sgZ f n pos ≤ 57)))]
  refine v_bif_eq X dX5_readCaseAndWitness_8 11 35 rfl (by decide) (fun c_2 => ?_) (fun c_2 => ?_)
  · skip
    refine v_iconst X dX5_readCaseAndWitness_35 36 rfl ?_
    subst hQ; exact m_zret X hr hlk hM dX5_readCaseAndWitness_36 rfl (by omega) ⟨(sv (bz_f (by unfold cwQ; omega))), (PR.to h_pg (by unfold cwP; (repeat' split); all_goals first | rfl | (exfalso; omega))), (PR.to h_pr (by unfold cwG; (repeat' split); all_goals first | rfl | (exfalso; omega)))⟩
  · skip
    refine v_aload_n X dX5_readCaseAndWitness_11 12 rfl 0 rfl ?_
    refine v_bipush X dX5_readCaseAndWitness_12 14 rfl rfl ?_
    refine v_muV X hM (h_pg.1) (c_X5_readSign l E g d r v N f (nuP f n pos) siz ml n 32 n0 n1 N1 hf (by omega) (by omega) (by omega) (by omega) hd_pg_sb hd_pg_sa) kvX5_readSign kiX5_readSign kl_X5_61 (q0 := 0) rfl rfl (As := [.int (zI 32)]) rfl rfl rfl dX5_readCaseAndWitness_14 17 rfl (k' := 0) (n' := 0) rfl rfl (fsI (fun q q1 q2 => (Or.inl (fsH (by omega) (by omega))))) ⟨h_pg, h_sb, h_sa⟩ (fun rv H3 lo3 hM hF hpo => ?_)
    obtain ⟨rfl, hw_0⟩ := hpo
    have h_pg : PR E g [(g, .inr (8, [.ref d, .int (zI (if sgZ f n (nuP f n pos) = 32 then (nuP f n pos) + 1 else (nuP f n pos))), .int (zI siz), .ref r, .ref (r + 2), .ref (r + 4), .ref (r + 6), .ref (r + 8)]))] H3 := hw_0
    replace h_sb := h_sb.kept hF 1 rfl (fsd (by omega))
    replace h_sa := h_sa.kept hF 1 rfl (fsd (by omega))
    replace h_pr := h_pr.kept hF 10 rfl (fsd (by omega))
    show V p l e (rmL 7 0 0) s m args below meth cd Q 1 H3 lo3 0 0 17 [(0, .ref g)] [.int (zI (bz (sgZ f n (nuP f n pos) = 32)))]
    refine v_bif_eq X dX5_readCaseAndWitness_17 20 35 rfl (by decide) (fun c_4 => ?_) (fun c_4 => ?_)
    · skip
      rw [if_neg c_4] at h_pg
      replace h_pg : PR E g [(g, .inr (8, [.ref d, .int (zI (nuP f n pos)), .int (zI siz), .ref r, .ref (r + 2), .ref (r + 4), .ref (r + 6), .ref (r + 8)]))] H3 := h_pg
      refine v_iconst X dX5_readCaseAndWitness_35 36 rfl ?_
      subst hQ; exact m_zret X hr hlk hM dX5_readCaseAndWitness_36 rfl (by omega) ⟨(sv (bz_f (by unfold cwQ; omega))), (PR.to h_pg (by unfold cwP; (repeat' split); all_goals first | rfl | (exfalso; omega))), (PR.to h_pr (by unfold cwG; (repeat' split); all_goals first | rfl | (exfalso; omega)))⟩
    · skip
      rw [if_pos c_4] at h_pg
      replace h_pg : PR E g [(g, .inr (8, [.ref d, .int (zI ((nuP f n pos) + 1)), .int (zI siz), .ref r, .ref (r + 2), .ref (r + 4), .ref (r + 6), .ref (r + 8)]))] H3 := h_pg
      refine v_aload_n X dX5_readCaseAndWitness_20 21 rfl 0 rfl ?_
      refine v_aload_n X dX5_readCaseAndWitness_21 22 rfl 0 rfl ?_
      refine v_getf X hM.C h_pg.1 inX5 0 rfl rfl 5 (by decide) kf_X5_37 (fun _ h => h) rfl dX5_readCaseAndWitness_22 25 rfl ?_
      refine v_muV X hM (h_pg.1) (c_X5_readDigit l E g d r v N f ((nuP f n pos) + 1) siz ml n (r + 4) (pr 3) n0 n1 N1 hf (by omega) (by omega) s0 s1 hd_pg_sb hd_pg_sa (by omega) (by omega) (by omega)) kvX5_readDigit kiX5_readDigit kl_X5_97 (q0 := 0) rfl rfl (As := [.ref (r + 4)]) rfl rfl rfl dX5_readCaseAndWitness_25 28 rfl (k' := 0) (n' := 0) rfl rfl (by intro q hq; simp only [Fr, Fs, or_false, false_or] at hq ⊢; omega) ⟨h_pg, h_sb, h_sa, (h_pr.sub 4 2 rfl (wc := rowW E (r + 4) 8 (pr 3)) rfl)⟩ (fun rv H5 lo5 hM hF hpo => ?_)
      obtain ⟨rfl, hw_0, hw_1⟩ := hpo
      have h_pg : PR E g [(g, .inr (8, [.ref d, .int (zI (if 48 ≤ sgZ f n ((nuP f n pos) + 1) ∧ sgZ f n ((nuP f n pos) + 1) ≤ 57 then ((nuP f n pos) + 1) + 1 else ((nuP f n pos) + 1))), .int (zI siz), .ref r, .ref (r + 2), .ref (r + 4), .ref (r + 6), .ref (r + 8)]))] H5 := hw_0
      have h_pr := h_pr.joinG 4 2 10 rfl rfl hw_1 hF (by intro q q1 q2 q3; simp only [Fs, or_false] at q3; omega) rfl (Nat.le_of_ble_eq_true rfl) (ws' := prowsW E r (updC (updC pr 2 (nuG f n pos siz (pr 2))) 3 (if 48 ≤ sgZ f n ((nuP f n pos) + 1) ∧ sgZ f n ((nuP f n pos) + 1) ≤ 57 then updZ (pr 3) siz (sgZ f n ((nuP f n pos) + 1) - 48) else (pr 3)))) rfl
      replace h_sb := h_sb.kept hF 1 rfl (by intro q q1 q2 q3; simp only [Fs, or_false] at q3; omega)
      replace h_sa := h_sa.kept hF 1 rfl (by intro q q1 q2 q3; simp only [Fs, or_false] at q3; omega)
      show V p l e (rmL 7 0 0) s m args below meth cd Q 1 H5 lo5 0 0 28 [(0, .ref g)] [.int (zI (bz (48 ≤ sgZ f n ((nuP f n pos) + 1) ∧ sgZ f n ((nuP f n pos) + 1) ≤ 57)))]
      refine v_bif_eq X dX5_readCaseAndWitness_28 31 35 rfl (by decide) (fun c_6 => ?_) (fun c_6 => ?_)
      · skip
        rw [if_neg c_6] at h_pg
        replace h_pg : PR E g [(g, .inr (8, [.ref d, .int (zI ((nuP f n pos) + 1)), .int (zI siz), .ref r, .ref (r + 2), .ref (r + 4), .ref (r + 6), .ref (r + 8)]))] H5 := h_pg
        rw [if_neg c_6] at h_pr
        replace h_pr : PR E r (prowsW E r (updC (updC pr 2 (nuG f n pos siz (pr 2))) 3 (pr 3))) H5 := h_pr
        refine v_iconst X dX5_readCaseAndWitness_35 36 rfl ?_
        subst hQ; exact m_zret X hr hlk hM dX5_readCaseAndWitness_36 rfl (by omega) ⟨(sv (bz_f (by unfold cwQ; omega))), (PR.to h_pg (by unfold cwP; (repeat' split); all_goals first | rfl | (exfalso; omega))), (PR.to h_pr (by unfold cwG; (repeat' split); all_goals first | rfl | (exfalso; omega)))⟩
      · skip
        rw [if_pos c_6] at h_pg
        replace h_pg : PR E g [(g, .inr (8, [.ref d, .int (zI (((nuP f n pos) + 1) + 1)), .int (zI siz), .ref r, .ref (r + 2), .ref (r + 4), .ref (r + 6), .ref (r + 8)]))] H5 := h_pg
        rw [if_pos c_6] at h_pr
        replace h_pr : PR E r (prowsW E r (updC (updC pr 2 (nuG f n pos siz (pr 2))) 3 (updZ (pr 3) siz (sgZ f n ((nuP f n pos) + 1) - 48)))) H5 := h_pr
        refine v_iconst X dX5_readCaseAndWitness_31 32 rfl ?_
        refine v_goto X dX5_readCaseAndWitness_32 36 (by decide) ?_
        subst hQ; exact m_zret X hr hlk hM dX5_readCaseAndWitness_36 rfl (by omega) ⟨(sv (bz_t (by unfold cwQ; omega))), (PR.to h_pg (by unfold cwP; (repeat' split); all_goals first | rfl | (exfalso; omega))), (PR.to h_pr (by unfold cwG; (repeat' split); all_goals first | rfl | (exfalso; omega)))⟩
def chP (f : Int → Int) (n pos : Int) : Int := if 48 ≤ sgZ f n pos ∧ sgZ f n pos ≤ 57 then (if sgZ f n (pos + 1) = 32 then (if 48 ≤ sgZ f n (pos + 1 + 1) ∧ sgZ f n (pos + 1 + 1) ≤ 57 then pos + 1 + 1 + 1 else pos + 1 + 1) else pos + 1) else pos
abbrev chQ (f : Int → Int) (n pos : Int) : Prop := (48 ≤ sgZ f n pos ∧ sgZ f n pos ≤ 57) ∧ sgZ f n (pos + 1) = 32 ∧ 48 ≤ sgZ f n (pos + 1 + 1) ∧ sgZ f n (pos + 1 + 1) ≤ 57
def chG (f : Int → Int) (n pos siz : Int) (gs : Int → Int) : Int → Int := if 48 ≤ sgZ f n pos ∧ sgZ f n pos ≤ 57 then (if sgZ f n (pos + 1) = 32 then (if 48 ≤ sgZ f n (pos + 1 + 1) ∧ sgZ f n (pos + 1 + 1) ≤ 57 then updZ gs siz (sgZ f n (pos + 1 + 1) - 48) else gs) else gs) else gs
def dgP (f : Int → Int) (n pos : Int) : Int := if 48 ≤ sgZ f n pos ∧ sgZ f n pos ≤ 57 then pos + 1 else pos
def dgG (f : Int → Int) (n pos siz : Int) (gs : Int → Int) : Int → Int := if 48 ≤ sgZ f n pos ∧ sgZ f n pos ≤ 57 then updZ gs siz (sgZ f n pos - 48) else gs
set_option maxHeartbeats 4000000 in
set_option maxRecDepth 20000 in
theorem c_X5_readArguments_0 (l : Launch) (E : Nat → Nat → Nat) (g : Nat) (d : Nat) (r : Nat) (v : Nat) (N : Nat) (f : Int → Int) (pos : Int) (siz : Int) (ml : Int) (n : Int) (pr : Nat → Int → Int) (n0 : 0 ≤ n) (n1 : n ≤ (N : Int)) (N1 : N < 1000) (hf : ∀ j : Int, 0 ≤ f j ∧ f j < 128) (p0 : 0 ≤ pos) (p1 : pos ≤ 1000) (s0 : 0 ≤ siz) (s1 : siz < 8) (p2 : pos ≤ 800) (hd_pg_sb : g + 1 ≤ d ∨ d + 1 ≤ g) (hd_pg_sa : g + 1 ≤ v ∨ v + 1 ≤ g) (hd_pg_pr : g + 1 ≤ r ∨ r + 10 ≤ g) (hd_sb_pr : d + 1 ≤ r ∨ r + 10 ≤ d) (hd_sa_pr : v + 1 ≤ r ∨ r + 10 ≤ v) : Mu l yX5_readArguments cX5_readArguments 2 (some .boolean) 8 0 0 E [(g, 1), (r, 10)] [.ref g, .int (zI 0)] (fun H => PR E g [(g, .inr (8, [.ref d, .int (zI pos), .int (zI siz), .ref r, .ref (r + 2), .ref (r + 4), .ref (r + 6), .ref (r + 8)]))] H ∧ PR E d [(d, .inr (1, [.ref v, .int (zI 0), .int (zI ml), .int (zI n)]))] H ∧ PR E v [(v, .inl (E 102 2, N, .inl (zA f)))] H ∧ PR E r (prowsW E r pr) H) (fun rv H => rv = some (.int (zI (bz (chQ f n pos)))) ∧ PR E g [(g, .inr (8, [.ref d, .int (zI (chP f n pos)), .int (zI siz), .ref r, .ref (r + 2), .ref (r + 4), .ref (r + 6), .ref (r + 8)]))] H ∧ PR E r (prowsW E r (updC (updC pr 2 (dgG f n pos siz (pr 2))) 3 (chG f n pos siz (pr 3)))) H) := by
  refine Mu.start (own := RX5) rfl (by decide +kernel) (Nat.le_of_ble_eq_true rfl) ?_
  intro p e s m below meth cd args Q hQ X hr hlk hnm hM hPr
  obtain ⟨h_pg, h_sb, h_sa, h_pr⟩ := hPr
  have hsb := sgZ_b hf n pos
  have hsb1 := sgZ_b hf n (pos + 1)
  have hsb2 := sgZ_b hf n (pos + 1 + 1)
  refine v_iload_n X dX5_readArguments_0 1 rfl 1 rfl ?_
  refine v_tabIn X (by omega) dX5_readArguments_1 (by omega) (by omega) 0 (by omega) (off := 31) rfl 32 (by decide) ?_
  refine v_aload_n X dX5_readArguments_32 33 rfl 0 rfl ?_
  refine v_aload_n X dX5_readArguments_33 34 rfl 0 rfl ?_
  refine v_getf X hM.C h_pg.1 inX5 0 rfl rfl 4 (by decide) kf_X5_34 (fun _ h => h) rfl dX5_readArguments_34 37 rfl ?_
  refine v_muV X hM (h_pg.1) (c_X5_readDigit l E g d r v N f pos siz ml n (r + 2) (pr 2) n0 n1 N1 hf p0 p1 s0 s1 hd_pg_sb hd_pg_sa (by omega) (by omega) (by omega)) kvX5_readDigit kiX5_readDigit kl_X5_97 (q0 := 0) rfl rfl (As := [.ref (r + 2)]) rfl rfl rfl dX5_readArguments_37 40 rfl (k' := 0) (n' := 0) rfl rfl (by intro q hq; simp only [Fr, Fs, or_false, false_or] at hq ⊢; omega) ⟨h_pg, h_sb, h_sa, (h_pr.sub 2 2 rfl (wc := rowW E (r + 2) 8 (pr 2)) rfl)⟩ (fun rv H1 lo1 hM hF hpo => ?_)
  obtain ⟨rfl, hw_0, hw_1⟩ := hpo
  have h_pg : PR E g [(g, .inr (8, [.ref d, .int (zI (if 48 ≤ sgZ f n pos ∧ sgZ f n pos ≤ 57 then pos + 1 else pos)), .int (zI siz), .ref r, .ref (r + 2), .ref (r + 4), .ref (r + 6), .ref (r + 8)]))] H1 := hw_0
  have h_pr := h_pr.joinG 2 2 10 rfl rfl hw_1 hF (by intro q q1 q2 q3; simp only [Fs, or_false] at q3; omega) rfl (Nat.le_of_ble_eq_true rfl) (ws' := prowsW E r (updC pr 2 (if 48 ≤ sgZ f n pos ∧ sgZ f n pos ≤ 57 then updZ (pr 2) siz (sgZ f n pos - 48) else (pr 2)))) rfl
  replace h_sb := h_sb.kept hF 1 rfl (by intro q q1 q2 q3; simp only [Fs, or_false] at q3; omega)
  replace h_sa := h_sa.kept hF 1 rfl (by intro q q1 q2 q3; simp only [Fs, or_false] at q3; omega)
  show V p l e (rmL 8 0 0) s m args below meth cd Q 2 H1 lo1 0 0 40 [(0, .ref g), (1, .int (zI 0))] [.int (zI (bz (48 ≤ sgZ f n pos ∧ sgZ f n pos ≤ 57)))]
  refine v_bif_eq X dX5_readArguments_40 43 67 rfl (by decide) (fun c_2 => ?_) (fun c_2 => ?_)
  · skip
    rw [if_neg c_2] at h_pg
    replace h_pg : PR E g [(g, .inr (8, [.ref d, .int (zI pos), .int (zI siz), .ref r, .ref (r + 2), .ref (r + 4), .ref (r + 6), .ref (r + 8)]))] H1 := h_pg
    rw [if_neg c_2] at h_pr
    replace h_pr : PR E r (prowsW E r (updC pr 2 (pr 2))) H1 := h_pr
    refine v_iconst X dX5_readArguments_67 68 rfl ?_
    subst hQ; exact m_zret X hr hlk hM dX5_readArguments_68 rfl (by omega) ⟨(sv (bz_f (by unfold chQ; omega))), (PR.to h_pg (by unfold chP; (repeat' split); all_goals first | rfl | (exfalso; omega))), (PR.to h_pr (by unfold dgG chG; (repeat' split); all_goals first | rfl | (exfalso; omega)))⟩
  · skip
    rw [if_pos c_2] at h_pg
    replace h_pg : PR E g [(g, .inr (8, [.ref d, .int (zI (pos + 1)), .int (zI siz), .ref r, .ref (r + 2), .ref (r + 4), .ref (r + 6), .ref (r + 8)]))] H1 := h_pg
    rw [if_pos c_2] at h_pr
    replace h_pr : PR E r (prowsW E r (updC pr 2 (updZ (pr 2) siz (sgZ f n pos - 48)))) H1 := h_pr
    refine v_aload_n X dX5_readArguments_43 44 rfl 0 rfl ?_
    refine v_bipush X dX5_readArguments_44 46 rfl rfl ?_
    refine v_muV X hM (h_pg.1) (c_X5_readSign l E g d r v N f (pos + 1) siz ml n 32 n0 n1 N1 hf (by omega) (by omega) (by omega) (by omega) hd_pg_sb hd_pg_sa) kvX5_readSign kiX5_readSign kl_X5_61 (q0 := 0) rfl rfl (As := [.int (zI 32)]) rfl rfl rfl dX5_readArguments_46 49 rfl (k' := 0) (n' := 0) rfl rfl (fsI (fun q q1 q2 => (Or.inl (fsH (by omega) (by omega))))) ⟨h_pg, h_sb, h_sa⟩ (fun rv H3 lo3 hM hF hpo => ?_)
    obtain ⟨rfl, hw_0⟩ := hpo
    have h_pg : PR E g [(g, .inr (8, [.ref d, .int (zI (if sgZ f n (pos + 1) = 32 then (pos + 1) + 1 else (pos + 1))), .int (zI siz), .ref r, .ref (r + 2), .ref (r + 4), .ref (r + 6), .ref (r + 8)]))] H3 := hw_0
    replace h_sb := h_sb.kept hF 1 rfl (fsd (by omega))
    replace h_sa := h_sa.kept hF 1 rfl (fsd (by omega))
    replace h_pr := h_pr.kept hF 10 rfl (fsd (by omega))
    show V p l e (rmL 8 0 0) s m args below meth cd Q 2 H3 lo3 0 0 49 [(0, .ref g), (1, .int (zI 0))] [.int (zI (bz (sgZ f n (pos + 1) = 32)))]
    refine v_bif_eq X dX5_readArguments_49 52 67 rfl (by decide) (fun c_4 => ?_) (fun c_4 => ?_)
    · skip
      rw [if_neg c_4] at h_pg
      replace h_pg : PR E g [(g, .inr (8, [.ref d, .int (zI (pos + 1)), .int (zI siz), .ref r, .ref (r + 2), .ref (r + 4), .ref (r + 6), .ref (r + 8)]))] H3 := h_pg
      refine v_iconst X dX5_readArguments_67 68 rfl ?_
      subst hQ; exact m_zret X hr hlk hM dX5_readArguments_68 rfl (by omega) ⟨(sv (bz_f (by unfold chQ; omega))), (PR.to h_pg (by unfold chP; (repeat' split); all_goals first | rfl | (exfalso; omega))), (PR.to h_pr (by unfold dgG chG; (repeat' split); all_goals first | rfl | (exfalso; omega)))⟩
    · skip
      rw [if_pos c_4] at h_pg
      replace h_pg : PR E g [(g, .inr (8, [.ref d, .int (zI ((pos + 1) + 1)), .int (zI siz), .ref r, .ref (r + 2), .ref (r + 4), .ref (r + 6), .ref (r + 8)]))] H3 := h_pg
      refine v_aload_n X dX5_readArguments_52 53 rfl 0 rfl ?_
      refine v_aload_n X dX5_readArguments_53 54 rfl 0 rfl ?_
      refine v_getf X hM.C h_pg.1 inX5 0 rfl rfl 5 (by decide) kf_X5_37 (fun _ h => h) rfl dX5_readArguments_54 57 rfl ?_
      refine v_muV X hM (h_pg.1) (c_X5_readDigit l E g d r v N f ((pos + 1) + 1) siz ml n (r + 4) (pr 3) n0 n1 N1 hf (by omega) (by omega) s0 s1 hd_pg_sb hd_pg_sa (by omega) (by omega) (by omega)) kvX5_readDigit kiX5_readDigit kl_X5_97 (q0 := 0) rfl rfl (As := [.ref (r + 4)]) rfl rfl rfl dX5_readArguments_57 60 rfl (k' := 0) (n' := 0) rfl rfl (by intro q hq; simp only [Fr, Fs, or_false, false_or] at hq ⊢; omega) ⟨h_pg, h_sb, h_sa, (h_pr.sub 4 2 rfl (wc := rowW E (r + 4) 8 (pr 3)) rfl)⟩ (fun rv H5 lo5 hM hF hpo => ?_)
      obtain ⟨rfl, hw_0, hw_1⟩ := hpo
      have h_pg : PR E g [(g, .inr (8, [.ref d, .int (zI (if 48 ≤ sgZ f n ((pos + 1) + 1) ∧ sgZ f n ((pos + 1) + 1) ≤ 57 then ((pos + 1) + 1) + 1 else ((pos + 1) + 1))), .int (zI siz), .ref r, .ref (r + 2), .ref (r + 4), .ref (r + 6), .ref (r + 8)]))] H5 := hw_0
      have h_pr := h_pr.joinG 4 2 10 rfl rfl hw_1 hF (by intro q q1 q2 q3; simp only [Fs, or_false] at q3; omega) rfl (Nat.le_of_ble_eq_true rfl) (ws' := prowsW E r (updC (updC pr 2 (updZ (pr 2) siz (sgZ f n pos - 48))) 3 (if 48 ≤ sgZ f n ((pos + 1) + 1) ∧ sgZ f n ((pos + 1) + 1) ≤ 57 then updZ (pr 3) siz (sgZ f n ((pos + 1) + 1) - 48) else (pr 3)))) rfl
      replace h_sb := h_sb.kept hF 1 rfl (by intro q q1 q2 q3; simp only [Fs, or_false] at q3; omega)
      replace h_sa := h_sa.kept hF 1 rfl (by intro q q1 q2 q3; simp only [Fs, or_false] at q3; omega)
      show V p l e (rmL 8 0 0) s m args below meth cd Q 2 H5 lo5 0 0 60 [(0, .ref g), (1, .int (zI 0))] [.int (zI (bz (48 ≤ sgZ f n ((pos + 1) + 1) ∧ sgZ f n ((pos + 1) + 1) ≤ 57)))]
      refine v_bif_eq X dX5_readArguments_60 63 67 rfl (by decide) (fun c_6 => ?_) (fun c_6 => ?_)
      · skip
        rw [if_neg c_6] at h_pg
        replace h_pg : PR E g [(g, .inr (8, [.ref d, .int (zI ((pos + 1) + 1)), .int (zI siz), .ref r, .ref (r + 2), .ref (r + 4), .ref (r + 6), .ref (r + 8)]))] H5 := h_pg
        rw [if_neg c_6] at h_pr
        replace h_pr : PR E r (prowsW E r (updC (updC pr 2 (updZ (pr 2) siz (sgZ f n pos - 48))) 3 (pr 3))) H5 := h_pr
        refine v_iconst X dX5_readArguments_67 68 rfl ?_
        subst hQ; exact m_zret X hr hlk hM dX5_readArguments_68 rfl (by omega) ⟨(sv (bz_f (by unfold chQ; omega))), (PR.to h_pg (by unfold chP; (repeat' split); all_goals first | rfl | (exfalso; omega))), (PR.to h_pr (by unfold dgG chG; (repeat' split); all_goals first | rfl | (exfalso; omega)))⟩
      · skip
        rw [if_pos c_6] at h_pg
        replace h_pg : PR E g [(g, .inr (8, [.ref d, .int (zI (((pos + 1) + 1) + 1)), .int (zI siz), .ref r, .ref (r + 2), .ref (r + 4), .ref (r + 6), .ref (r + 8)]))] H5 := h_pg
        rw [if_pos c_6] at h_pr
        replace h_pr : PR E r (prowsW E r (updC (updC pr 2 (updZ (pr 2) siz (sgZ f n pos - 48))) 3 (updZ (pr 3) siz (sgZ f n ((pos + 1) + 1) - 48)))) H5 := h_pr
        refine v_iconst X dX5_readArguments_63 64 rfl ?_
        refine v_goto X dX5_readArguments_64 68 (by decide) ?_
        subst hQ; exact m_zret X hr hlk hM dX5_readArguments_68 rfl (by omega) ⟨(sv (bz_t (by unfold chQ; omega))), (PR.to h_pg (by unfold chP; (repeat' split); all_goals first | rfl | (exfalso; omega))), (PR.to h_pr (by unfold dgG chG; (repeat' split); all_goals first | rfl | (exfalso; omega)))⟩
set_option maxHeartbeats 4000000 in
set_option maxRecDepth 20000 in
theorem c_X5_readArguments_1 (l : Launch) (E : Nat → Nat → Nat) (g : Nat) (d : Nat) (r : Nat) (v : Nat) (N : Nat) (f : Int → Int) (pos : Int) (siz : Int) (ml : Int) (n : Int) (pr : Nat → Int → Int) (n0 : 0 ≤ n) (n1 : n ≤ (N : Int)) (N1 : N < 1000) (hf : ∀ j : Int, 0 ≤ f j ∧ f j < 128) (p0 : 0 ≤ pos) (p1 : pos ≤ 1000) (s0 : 0 ≤ siz) (s1 : siz < 8) (p2 : pos ≤ 800) (hd_pg_sb : g + 1 ≤ d ∨ d + 1 ≤ g) (hd_pg_sa : g + 1 ≤ v ∨ v + 1 ≤ g) (hd_pg_pr : g + 1 ≤ r ∨ r + 10 ≤ g) (hd_sb_pr : d + 1 ≤ r ∨ r + 10 ≤ d) (hd_sa_pr : v + 1 ≤ r ∨ r + 10 ≤ v) : Mu l yX5_readArguments cX5_readArguments 2 (some .boolean) 8 0 0 E [(g, 1), (r, 10)] [.ref g, .int (zI 1)] (fun H => PR E g [(g, .inr (8, [.ref d, .int (zI pos), .int (zI siz), .ref r, .ref (r + 2), .ref (r + 4), .ref (r + 6), .ref (r + 8)]))] H ∧ PR E d [(d, .inr (1, [.ref v, .int (zI 0), .int (zI ml), .int (zI n)]))] H ∧ PR E v [(v, .inl (E 102 2, N, .inl (zA f)))] H ∧ PR E r (prowsW E r pr) H) (fun rv H => (rv = some (.int (zI (bz (48 ≤ sgZ f n pos ∧ sgZ f n pos ≤ 57))))) ∧ PR E g [(g, .inr (8, [.ref d, .int (zI (dgP f n pos)), .int (zI siz), .ref r, .ref (r + 2), .ref (r + 4), .ref (r + 6), .ref (r + 8)]))] H ∧ PR E r (prowsW E r (updC pr 2 (dgG f n pos siz (pr 2)))) H) := by
  refine Mu.start (own := RX5) rfl (by decide +kernel) (Nat.le_of_ble_eq_true rfl) ?_
  intro p e s m below meth cd args Q hQ X hr hlk hnm hM hPr
  obtain ⟨h_pg, h_sb, h_sa, h_pr⟩ := hPr
  have hsb := sgZ_b hf n pos
  refine v_iload_n X dX5_readArguments_0 1 rfl 1 rfl ?_
  refine v_tabIn X (by omega) dX5_readArguments_1 (by omega) (by omega) 1 (by omega) (off := 68) rfl 69 (by decide) ?_
  refine v_aload_n X dX5_readArguments_69 70 rfl 0 rfl ?_
  refine v_aload_n X dX5_readArguments_70 71 rfl 0 rfl ?_
  refine v_getf X hM.C h_pg.1 inX5 0 rfl rfl 4 (by decide) kf_X5_34 (fun _ h => h) rfl dX5_readArguments_71 74 rfl ?_
  refine v_muV X hM (h_pg.1) (c_X5_readDigit l E g d r v N f pos siz ml n (r + 2) (pr 2) n0 n1 N1 hf p0 p1 s0 s1 hd_pg_sb hd_pg_sa (by omega) (by omega) (by omega)) kvX5_readDigit kiX5_readDigit kl_X5_97 (q0 := 0) rfl rfl (As := [.ref (r + 2)]) rfl rfl rfl dX5_readArguments_74 77 rfl (k' := 0) (n' := 0) rfl rfl (by intro q hq; simp only [Fr, Fs, or_false, false_or] at hq ⊢; omega) ⟨h_pg, h_sb, h_sa, (h_pr.sub 2 2 rfl (wc := rowW E (r + 2) 8 (pr 2)) rfl)⟩ (fun rv H1 lo1 hM hF hpo => ?_)
  obtain ⟨rfl, hw_0, hw_1⟩ := hpo
  have h_pg : PR E g [(g, .inr (8, [.ref d, .int (zI (if 48 ≤ sgZ f n pos ∧ sgZ f n pos ≤ 57 then pos + 1 else pos)), .int (zI siz), .ref r, .ref (r + 2), .ref (r + 4), .ref (r + 6), .ref (r + 8)]))] H1 := hw_0
  have h_pr := h_pr.joinG 2 2 10 rfl rfl hw_1 hF (by intro q q1 q2 q3; simp only [Fs, or_false] at q3; omega) rfl (Nat.le_of_ble_eq_true rfl) (ws' := prowsW E r (updC pr 2 (if 48 ≤ sgZ f n pos ∧ sgZ f n pos ≤ 57 then updZ (pr 2) siz (sgZ f n pos - 48) else (pr 2)))) rfl
  replace h_sb := h_sb.kept hF 1 rfl (by intro q q1 q2 q3; simp only [Fs, or_false] at q3; omega)
  replace h_sa := h_sa.kept hF 1 rfl (by intro q q1 q2 q3; simp only [Fs, or_false] at q3; omega)
  show V p l e (rmL 8 0 0) s m args below meth cd Q 2 H1 lo1 0 0 77 [(0, .ref g), (1, .int (zI 1))] [.int (zI (bz (48 ≤ sgZ f n pos ∧ sgZ f n pos ≤ 57)))]
  subst hQ; exact m_zret X hr hlk hM dX5_readArguments_77 rfl bz_01 ⟨rfl, (PR.to h_pg rfl), (PR.to h_pr rfl)⟩
def teP (f : Int → Int) (n pos : Int) : Int := if cwQ f n pos then (if sgZ f n (cwP f n pos) = 43 ∨ sgZ f n (cwP f n pos) = 45 then (if 48 ≤ sgZ f n (cwP f n pos + 1) ∧ sgZ f n (cwP f n pos + 1) ≤ 57 then cwP f n pos + 1 + 1 else cwP f n pos + 1) else cwP f n pos) else cwP f n pos
abbrev teQ (f : Int → Int) (n pos : Int) : Prop := cwQ f n pos ∧ (sgZ f n (cwP f n pos) = 43 ∨ sgZ f n (cwP f n pos) = 45) ∧ 48 ≤ sgZ f n (cwP f n pos + 1) ∧ sgZ f n (cwP f n pos + 1) ≤ 57
def flG (f : Int → Int) (n pos siz c : Int) (gs : Int → Int) : Int → Int := if cwQ f n pos then updZ gs siz (if sgZ f n (cwP f n pos) = c then 1 else 0) else gs
def teG (f : Int → Int) (n pos siz : Int) (gs : Int → Int) : Int → Int := if cwQ f n pos then (if sgZ f n (cwP f n pos) = 43 ∨ sgZ f n (cwP f n pos) = 45 then (if 48 ≤ sgZ f n (cwP f n pos + 1) ∧ sgZ f n (cwP f n pos + 1) ≤ 57 then updZ gs siz (sgZ f n (cwP f n pos + 1) - 48) else gs) else gs) else gs
def quP (f : Int → Int) (n pos : Int) : Int := if cwQ f n pos then (if sgZ f n (cwP f n pos) = 33 ∨ sgZ f n (cwP f n pos) = 63 then cwP f n pos + 1 else cwP f n pos) else cwP f n pos
abbrev quQ (f : Int → Int) (n pos : Int) : Prop := cwQ f n pos ∧ (sgZ f n (cwP f n pos) = 33 ∨ sgZ f n (cwP f n pos) = 63)
set_option maxHeartbeats 4000000 in
set_option maxRecDepth 20000 in
theorem c_X5_readArguments_2 (l : Launch) (E : Nat → Nat → Nat) (g : Nat) (d : Nat) (r : Nat) (v : Nat) (N : Nat) (f : Int → Int) (pos : Int) (siz : Int) (ml : Int) (n : Int) (pr : Nat → Int → Int) (n0 : 0 ≤ n) (n1 : n ≤ (N : Int)) (N1 : N < 1000) (hf : ∀ j : Int, 0 ≤ f j ∧ f j < 128) (p0 : 0 ≤ pos) (p1 : pos ≤ 1000) (s0 : 0 ≤ siz) (s1 : siz < 8) (p2 : pos ≤ 800) (hd_pg_sb : g + 1 ≤ d ∨ d + 1 ≤ g) (hd_pg_sa : g + 1 ≤ v ∨ v + 1 ≤ g) (hd_pg_pr : g + 1 ≤ r ∨ r + 10 ≤ g) (hd_sb_pr : d + 1 ≤ r ∨ r + 10 ≤ d) (hd_sa_pr : v + 1 ≤ r ∨ r + 10 ≤ v) : Mu l yX5_readArguments cX5_readArguments 2 (some .boolean) 8 0 0 E [(g, 1), (r, 10)] [.ref g, .int (zI 2)] (fun H => PR E g [(g, .inr (8, [.ref d, .int (zI pos), .int (zI siz), .ref r, .ref (r + 2), .ref (r + 4), .ref (r + 6), .ref (r + 8)]))] H ∧ PR E d [(d, .inr (1, [.ref v, .int (zI 0), .int (zI ml), .int (zI n)]))] H ∧ PR E v [(v, .inl (E 102 2, N, .inl (zA f)))] H ∧ PR E r (prowsW E r pr) H) (fun rv H => rv = some (.int (zI (bz (teQ f n pos)))) ∧ PR E g [(g, .inr (8, [.ref d, .int (zI (teP f n pos)), .int (zI siz), .ref r, .ref (r + 2), .ref (r + 4), .ref (r + 6), .ref (r + 8)]))] H ∧ PR E r (prowsW E r (updC (updC (updC (updC pr 2 (nuG f n pos siz (pr 2))) 3 (cwG f n pos siz (pr 3))) 4 (flG f n pos siz 43 (pr 4))) 5 (teG f n pos siz (pr 5)))) H) := by
  refine Mu.start (own := RX5) rfl (by decide +kernel) (Nat.le_of_ble_eq_true rfl) ?_
  intro p e s m below meth cd args Q hQ X hr hlk hnm hM hPr
  obtain ⟨h_pg, h_sb, h_sa, h_pr⟩ := hPr
  have hcb := cwP_b f n pos
  have hsb1 := sgZ_b hf n (cwP f n pos)
  have hsb2 := sgZ_b hf n (cwP f n pos + 1)
  refine v_iload_n X dX5_readArguments_0 1 rfl 1 rfl ?_
  refine v_tabIn X (by omega) dX5_readArguments_1 (by omega) (by omega) 2 (by omega) (off := 77) rfl 78 (by decide) ?_
  refine v_aload_n X dX5_readArguments_78 79 rfl 0 rfl ?_
  refine v_muV X hM (h_pg.1) (c_X5_readCaseAndWitness l E g d r v N f pos siz ml n pr n0 n1 N1 hf p0 p1 s0 s1 p2 hd_pg_sb hd_pg_sa hd_pg_pr hd_sb_pr hd_sa_pr) kvX5_readCaseAndWitness kiX5_readCaseAndWitness kl_X5_101 (q0 := 0) rfl rfl (As := []) rfl rfl rfl dX5_readArguments_79 82 rfl (k' := 0) (n' := 0) rfl rfl (by intro q hq; simp only [Fr, Fs, or_false, false_or] at hq ⊢; omega) ⟨h_pg, h_sb, h_sa, h_pr⟩ (fun rv H1 lo1 hM hF hpo => ?_)
  obtain ⟨rfl, hw_0, hw_1⟩ := hpo
  have h_pg : PR E g [(g, .inr (8, [.ref d, .int (zI (cwP f n pos)), .int (zI siz), .ref r, .ref (r + 2), .ref (r + 4), .ref (r + 6), .ref (r + 8)]))] H1 := hw_0
  have h_pr : PR E r (prowsW E r (updC (updC pr 2 (nuG f n pos siz ((pr 2)))) 3 (cwG f n pos siz ((pr 3))))) H1 := hw_1
  replace h_sb := h_sb.kept hF 1 rfl (by intro q q1 q2 q3; simp only [Fs, or_false] at q3; omega)
  replace h_sa := h_sa.kept hF 1 rfl (by intro q q1 q2 q3; simp only [Fs, or_false] at q3; omega)
  show V p l e (rmL 8 0 0) s m args below meth cd Q 2 H1 lo1 0 0 82 [(0, .ref g), (1, .int (zI 2))] [.int (zI (bz (cwQ f n pos)))]
  refine v_bif_eq X dX5_readArguments_82 85 111 rfl (by decide) (fun c_2 => ?_) (fun c_2 => ?_)
  · skip
    refine v_iconst X dX5_readArguments_111 112 rfl ?_
    subst hQ; exact m_zret X hr hlk hM dX5_readArguments_112 rfl (by omega) ⟨(sv (bz_f (by first | exact ⟨by assumption, by assumption, by assumption⟩ | exact ⟨by assumption, by assumption⟩ | (intro z; first | exact absurd z.1 (by assumption) | exact absurd z.2.1 (by assumption) | exact absurd z.2.2 (by assumption) | exact absurd z.2 (by assumption))))), (PR.to h_pg (by unfold teP; (repeat' split); all_goals first | rfl | contradiction | (exfalso; omega))), (PR.to h_pr (by unfold flG teG; (repeat' split); all_goals first | rfl | contradiction | (exfalso; omega)))⟩
  · skip
    refine v_aload_n X dX5_readArguments_85 86 rfl 0 rfl ?_
    refine v_bipush X dX5_readArguments_86 88 rfl rfl ?_
    refine v_bipush X dX5_readArguments_88 90 rfl rfl ?_
    refine v_muV X hM (h_pg.1) (c_X5_readFlag l E g d r v N f (cwP f n pos) siz ml n (pr 4) 43 45 n0 n1 N1 hf (by omega) (by omega) s0 s1 (by omega) (by omega) (by omega) (by omega) hd_pg_sb hd_pg_sa (by omega) (by omega) (by omega)) kvX5_readFlag kiX5_readFlag kl_X5_105 (q0 := 0) rfl rfl (As := [.int (zI 43), .int (zI 45)]) rfl rfl rfl dX5_readArguments_90 93 rfl (k' := 0) (n' := 0) rfl rfl (by intro q hq; simp only [Fr, Fs, or_false, false_or] at hq ⊢; omega) ⟨h_pg, h_sb, h_sa, (h_pr.sub 6 2 rfl (wc := rowW E (r + 6) 8 (pr 4)) rfl)⟩ (fun rv H3 lo3 hM hF hpo => ?_)
    obtain ⟨rfl, hw_0, hw_1⟩ := hpo
    have h_pg : PR E g [(g, .inr (8, [.ref d, .int (zI (if sgZ f n (cwP f n pos) = 43 ∨ sgZ f n (cwP f n pos) = 45 then (cwP f n pos) + 1 else (cwP f n pos))), .int (zI siz), .ref r, .ref (r + 2), .ref (r + 4), .ref (r + 6), .ref (r + 8)]))] H3 := hw_0
    have h_pr := h_pr.joinG 6 2 10 rfl rfl hw_1 hF (by intro q q1 q2 q3; simp only [Fs, or_false] at q3; omega) rfl (Nat.le_of_ble_eq_true rfl) (ws' := prowsW E r (updC (updC (updC pr 2 (nuG f n pos siz ((pr 2)))) 3 (cwG f n pos siz ((pr 3)))) 4 (updZ (pr 4) siz (if sgZ f n (cwP f n pos) = 43 then 1 else 0)))) rfl
    replace h_sb := h_sb.kept hF 1 rfl (by intro q q1 q2 q3; simp only [Fs, or_false] at q3; omega)
    replace h_sa := h_sa.kept hF 1 rfl (by intro q q1 q2 q3; simp only [Fs, or_false] at q3; omega)
    show V p l e (rmL 8 0 0) s m args below meth cd Q 2 H3 lo3 0 0 93 [(0, .ref g), (1, .int (zI 2))] [.int (zI (bz (sgZ f n (cwP f n pos) = 43 ∨ sgZ f n (cwP f n pos) = 45)))]
    refine v_bif_eq X dX5_readArguments_93 96 111 rfl (by decide) (fun c_4 => ?_) (fun c_4 => ?_)
    · skip
      rw [if_neg c_4] at h_pg
      replace h_pg : PR E g [(g, .inr (8, [.ref d, .int (zI (cwP f n pos)), .int (zI siz), .ref r, .ref (r + 2), .ref (r + 4), .ref (r + 6), .ref (r + 8)]))] H3 := h_pg
      refine v_iconst X dX5_readArguments_111 112 rfl ?_
      subst hQ; exact m_zret X hr hlk hM dX5_readArguments_112 rfl (by omega) ⟨(sv (bz_f (by first | exact ⟨by assumption, by assumption, by assumption⟩ | exact ⟨by assumption, by assumption⟩ | (intro z; first | exact absurd z.1 (by assumption) | exact absurd z.2.1 (by assumption) | exact absurd z.2.2 (by assumption) | exact absurd z.2 (by assumption))))), (PR.to h_pg (by unfold teP; (repeat' split); all_goals first | rfl | contradiction | (exfalso; omega))), (PR.to h_pr (by unfold flG teG; (repeat' split); all_goals first | rfl | contradiction | (exfalso; omega)))⟩
    · skip
      rw [if_pos c_4] at h_pg
      replace h_pg : PR E g [(g, .inr (8, [.ref d, .int (zI ((cwP f n pos) + 1)), .int (zI siz), .ref r, .ref (r + 2), .ref (r + 4), .ref (r + 6), .ref (r + 8)]))] H3 := h_pg
      refine v_aload_n X dX5_readArguments_96 97 rfl 0 rfl ?_
      refine v_aload_n X dX5_readArguments_97 98 rfl 0 rfl ?_
      refine v_getf X hM.C h_pg.1 inX5 0 rfl rfl 7 (by decide) kf_X5_43 (fun _ h => h) rfl dX5_readArguments_98 101 rfl ?_
      refine v_muV X hM (h_pg.1) (c_X5_readDigit l E g d r v N f ((cwP f n pos) + 1) siz ml n (r + 8) (pr 5) n0 n1 N1 hf (by omega) (by omega) s0 s1 hd_pg_sb hd_pg_sa (by omega) (by omega) (by omega)) kvX5_readDigit kiX5_readDigit kl_X5_97 (q0 := 0) rfl rfl (As := [.ref (r + 8)]) rfl rfl rfl dX5_readArguments_101 104 rfl (k' := 0) (n' := 0) rfl rfl (by intro q hq; simp only [Fr, Fs, or_false, false_or] at hq ⊢; omega) ⟨h_pg, h_sb, h_sa, (h_pr.sub 8 2 rfl (wc := rowW E (r + 8) 8 (pr 5)) rfl)⟩ (fun rv H5 lo5 hM hF hpo => ?_)
      obtain ⟨rfl, hw_0, hw_1⟩ := hpo
      have h_pg : PR E g [(g, .inr (8, [.ref d, .int (zI (if 48 ≤ sgZ f n ((cwP f n pos) + 1) ∧ sgZ f n ((cwP f n pos) + 1) ≤ 57 then ((cwP f n pos) + 1) + 1 else ((cwP f n pos) + 1))), .int (zI siz), .ref r, .ref (r + 2), .ref (r + 4), .ref (r + 6), .ref (r + 8)]))] H5 := hw_0
      have h_pr := h_pr.joinG 8 2 10 rfl rfl hw_1 hF (by intro q q1 q2 q3; simp only [Fs, or_false] at q3; omega) rfl (Nat.le_of_ble_eq_true rfl) (ws' := prowsW E r (updC (updC (updC (updC pr 2 (nuG f n pos siz ((pr 2)))) 3 (cwG f n pos siz ((pr 3)))) 4 (updZ (pr 4) siz (if sgZ f n (cwP f n pos) = 43 then 1 else 0))) 5 (if 48 ≤ sgZ f n ((cwP f n pos) + 1) ∧ sgZ f n ((cwP f n pos) + 1) ≤ 57 then updZ (pr 5) siz (sgZ f n ((cwP f n pos) + 1) - 48) else (pr 5)))) rfl
      replace h_sb := h_sb.kept hF 1 rfl (by intro q q1 q2 q3; simp only [Fs, or_false] at q3; omega)
      replace h_sa := h_sa.kept hF 1 rfl (by intro q q1 q2 q3; simp only [Fs, or_false] at q3; omega)
      show V p l e (rmL 8 0 0) s m args below meth cd Q 2 H5 lo5 0 0 104 [(0, .ref g), (1, .int (zI 2))] [.int (zI (bz (48 ≤ sgZ f n ((cwP f n pos) + 1) ∧ sgZ f n ((cwP f n pos) + 1) ≤ 57)))]
      refine v_bif_eq X dX5_readArguments_104 107 111 rfl (by decide) (fun c_6 => ?_) (fun c_6 => ?_)
      · skip
        rw [if_neg c_6] at h_pg
        replace h_pg : PR E g [(g, .inr (8, [.ref d, .int (zI ((cwP f n pos) + 1)), .int (zI siz), .ref r, .ref (r + 2), .ref (r + 4), .ref (r + 6), .ref (r + 8)]))] H5 := h_pg
        rw [if_neg c_6] at h_pr
        replace h_pr : PR E r (prowsW E r (updC (updC (updC (updC pr 2 (nuG f n pos siz ((pr 2)))) 3 (cwG f n pos siz ((pr 3)))) 4 (updZ (pr 4) siz (if sgZ f n (cwP f n pos) = 43 then 1 else 0))) 5 (pr 5))) H5 := h_pr
        refine v_iconst X dX5_readArguments_111 112 rfl ?_
        subst hQ; exact m_zret X hr hlk hM dX5_readArguments_112 rfl (by omega) ⟨(sv (bz_f (by first | exact ⟨by assumption, by assumption, by assumption⟩ | exact ⟨by assumption, by assumption⟩ | (intro z; first | exact absurd z.1 (by assumption) | exact absurd z.2.1 (by assumption) | exact absurd z.2.2 (by assumption) | exact absurd z.2 (by assumption))))), (PR.to h_pg (by unfold teP; (repeat' split); all_goals first | rfl | contradiction | (exfalso; omega))), (PR.to h_pr (by unfold flG teG; (repeat' split); all_goals first | rfl | contradiction | (exfalso; omega)))⟩
      · skip
        rw [if_pos c_6] at h_pg
        replace h_pg : PR E g [(g, .inr (8, [.ref d, .int (zI (((cwP f n pos) + 1) + 1)), .int (zI siz), .ref r, .ref (r + 2), .ref (r + 4), .ref (r + 6), .ref (r + 8)]))] H5 := h_pg
        rw [if_pos c_6] at h_pr
        replace h_pr : PR E r (prowsW E r (updC (updC (updC (updC pr 2 (nuG f n pos siz ((pr 2)))) 3 (cwG f n pos siz ((pr 3)))) 4 (updZ (pr 4) siz (if sgZ f n (cwP f n pos) = 43 then 1 else 0))) 5 (updZ (pr 5) siz (sgZ f n ((cwP f n pos) + 1) - 48)))) H5 := h_pr
        refine v_iconst X dX5_readArguments_107 108 rfl ?_
        refine v_goto X dX5_readArguments_108 112 (by decide) ?_
        subst hQ; exact m_zret X hr hlk hM dX5_readArguments_112 rfl (by omega) ⟨(sv (bz_t (by first | exact ⟨by assumption, by assumption, by assumption⟩ | exact ⟨by assumption, by assumption⟩ | (intro z; first | exact absurd z.1 (by assumption) | exact absurd z.2.1 (by assumption) | exact absurd z.2.2 (by assumption) | exact absurd z.2 (by assumption))))), (PR.to h_pg (by unfold teP; (repeat' split); all_goals first | rfl | contradiction | (exfalso; omega))), (PR.to h_pr (by unfold flG teG; (repeat' split); all_goals first | rfl | contradiction | (exfalso; omega)))⟩
set_option maxHeartbeats 4000000 in
set_option maxRecDepth 20000 in
theorem c_X5_readArguments_3 (l : Launch) (E : Nat → Nat → Nat) (g : Nat) (d : Nat) (r : Nat) (v : Nat) (N : Nat) (f : Int → Int) (pos : Int) (siz : Int) (ml : Int) (n : Int) (pr : Nat → Int → Int) (n0 : 0 ≤ n) (n1 : n ≤ (N : Int)) (N1 : N < 1000) (hf : ∀ j : Int, 0 ≤ f j ∧ f j < 128) (p0 : 0 ≤ pos) (p1 : pos ≤ 1000) (s0 : 0 ≤ siz) (s1 : siz < 8) (p2 : pos ≤ 800) (hd_pg_sb : g + 1 ≤ d ∨ d + 1 ≤ g) (hd_pg_sa : g + 1 ≤ v ∨ v + 1 ≤ g) (hd_pg_pr : g + 1 ≤ r ∨ r + 10 ≤ g) (hd_sb_pr : d + 1 ≤ r ∨ r + 10 ≤ d) (hd_sa_pr : v + 1 ≤ r ∨ r + 10 ≤ v) : Mu l yX5_readArguments cX5_readArguments 2 (some .boolean) 8 0 0 E [(g, 1), (r, 10)] [.ref g, .int (zI 3)] (fun H => PR E g [(g, .inr (8, [.ref d, .int (zI pos), .int (zI siz), .ref r, .ref (r + 2), .ref (r + 4), .ref (r + 6), .ref (r + 8)]))] H ∧ PR E d [(d, .inr (1, [.ref v, .int (zI 0), .int (zI ml), .int (zI n)]))] H ∧ PR E v [(v, .inl (E 102 2, N, .inl (zA f)))] H ∧ PR E r (prowsW E r pr) H) (fun rv H => rv = some (.int (zI (bz (quQ f n pos)))) ∧ PR E g [(g, .inr (8, [.ref d, .int (zI (quP f n pos)), .int (zI siz), .ref r, .ref (r + 2), .ref (r + 4), .ref (r + 6), .ref (r + 8)]))] H ∧ PR E r (prowsW E r (updC (updC (updC pr 2 (nuG f n pos siz (pr 2))) 3 (cwG f n pos siz (pr 3))) 4 (flG f n pos siz 33 (pr 4)))) H) := by
  refine Mu.start (own := RX5) rfl (by decide +kernel) (Nat.le_of_ble_eq_true rfl) ?_
  intro p e s m below meth cd args Q hQ X hr hlk hnm hM hPr
  obtain ⟨h_pg, h_sb, h_sa, h_pr⟩ := hPr
  have hcb := cwP_b f n pos
  have hsb1 := sgZ_b hf n (cwP f n pos)
  have hsb2 := sgZ_b hf n (cwP f n pos + 1)
  refine v_iload_n X dX5_readArguments_0 1 rfl 1 rfl ?_
  refine v_tabIn X (by omega) dX5_readArguments_1 (by omega) (by omega) 3 (by omega) (off := 112) rfl 113 (by decide) ?_
  refine v_aload_n X dX5_readArguments_113 114 rfl 0 rfl ?_
  refine v_muV X hM (h_pg.1) (c_X5_readCaseAndWitness l E g d r v N f pos siz ml n pr n0 n1 N1 hf p0 p1 s0 s1 p2 hd_pg_sb hd_pg_sa hd_pg_pr hd_sb_pr hd_sa_pr) kvX5_readCaseAndWitness kiX5_readCaseAndWitness kl_X5_101 (q0 := 0) rfl rfl (As := []) rfl rfl rfl dX5_readArguments_114 117 rfl (k' := 0) (n' := 0) rfl rfl (by intro q hq; simp only [Fr, Fs, or_false, false_or] at hq ⊢; omega) ⟨h_pg, h_sb, h_sa, h_pr⟩ (fun rv H1 lo1 hM hF hpo => ?_)
  obtain ⟨rfl, hw_0, hw_1⟩ := hpo
  have h_pg : PR E g [(g, .inr (8, [.ref d, .int (zI (cwP f n pos)), .int (zI siz), .ref r, .ref (r + 2), .ref (r + 4), .ref (r + 6), .ref (r + 8)]))] H1 := hw_0
  have h_pr : PR E r (prowsW E r (updC (updC pr 2 (nuG f n pos siz ((pr 2)))) 3 (cwG f n pos siz ((pr 3))))) H1 := hw_1
  replace h_sb := h_sb.kept hF 1 rfl (by intro q q1 q2 q3; simp only [Fs, or_false] at q3; omega)
  replace h_sa := h_sa.kept hF 1 rfl (by intro q q1 q2 q3; simp only [Fs, or_false] at q3; omega)
  show V p l e (rmL 8 0 0) s m args below meth cd Q 2 H1 lo1 0 0 117 [(0, .ref g), (1, .int (zI 3))] [.int (zI (bz (cwQ f n pos)))]
  refine v_bif_eq X dX5_readArguments_117 120 135 rfl (by decide) (fun c_2 => ?_) (fun c_2 => ?_)
  · skip
    refine v_iconst X dX5_readArguments_135 136 rfl ?_
    subst hQ; exact m_zret X hr hlk hM dX5_readArguments_136 rfl (by omega) ⟨(sv (bz_f (by first | exact ⟨by assumption, by assumption, by assumption⟩ | exact ⟨by assumption, by assumption⟩ | (intro z; first | exact absurd z.1 (by assumption) | exact absurd z.2.1 (by assumption) | exact absurd z.2.2 (by assumption) | exact absurd z.2 (by assumption))))), (PR.to h_pg (by unfold quP; (repeat' split); all_goals first | rfl | contradiction | (exfalso; omega))), (PR.to h_pr (by unfold flG; (repeat' split); all_goals first | rfl | contradiction | (exfalso; omega)))⟩
  · skip
    refine v_aload_n X dX5_readArguments_120 121 rfl 0 rfl ?_
    refine v_bipush X dX5_readArguments_121 123 rfl rfl ?_
    refine v_bipush X dX5_readArguments_123 125 rfl rfl ?_
    refine v_muV X hM (h_pg.1) (c_X5_readFlag l E g d r v N f (cwP f n pos) siz ml n (pr 4) 33 63 n0 n1 N1 hf (by omega) (by omega) s0 s1 (by omega) (by omega) (by omega) (by omega) hd_pg_sb hd_pg_sa (by omega) (by omega) (by omega)) kvX5_readFlag kiX5_readFlag kl_X5_105 (q0 := 0) rfl rfl (As := [.int (zI 33), .int (zI 63)]) rfl rfl rfl dX5_readArguments_125 128 rfl (k' := 0) (n' := 0) rfl rfl (by intro q hq; simp only [Fr, Fs, or_false, false_or] at hq ⊢; omega) ⟨h_pg, h_sb, h_sa, (h_pr.sub 6 2 rfl (wc := rowW E (r + 6) 8 (pr 4)) rfl)⟩ (fun rv H3 lo3 hM hF hpo => ?_)
    obtain ⟨rfl, hw_0, hw_1⟩ := hpo
    have h_pg : PR E g [(g, .inr (8, [.ref d, .int (zI (if sgZ f n (cwP f n pos) = 33 ∨ sgZ f n (cwP f n pos) = 63 then (cwP f n pos) + 1 else (cwP f n pos))), .int (zI siz), .ref r, .ref (r + 2), .ref (r + 4), .ref (r + 6), .ref (r + 8)]))] H3 := hw_0
    have h_pr := h_pr.joinG 6 2 10 rfl rfl hw_1 hF (by intro q q1 q2 q3; simp only [Fs, or_false] at q3; omega) rfl (Nat.le_of_ble_eq_true rfl) (ws' := prowsW E r (updC (updC (updC pr 2 (nuG f n pos siz ((pr 2)))) 3 (cwG f n pos siz ((pr 3)))) 4 (updZ (pr 4) siz (if sgZ f n (cwP f n pos) = 33 then 1 else 0)))) rfl
    replace h_sb := h_sb.kept hF 1 rfl (by intro q q1 q2 q3; simp only [Fs, or_false] at q3; omega)
    replace h_sa := h_sa.kept hF 1 rfl (by intro q q1 q2 q3; simp only [Fs, or_false] at q3; omega)
    show V p l e (rmL 8 0 0) s m args below meth cd Q 2 H3 lo3 0 0 128 [(0, .ref g), (1, .int (zI 3))] [.int (zI (bz (sgZ f n (cwP f n pos) = 33 ∨ sgZ f n (cwP f n pos) = 63)))]
    refine v_bif_eq X dX5_readArguments_128 131 135 rfl (by decide) (fun c_4 => ?_) (fun c_4 => ?_)
    · skip
      rw [if_neg c_4] at h_pg
      replace h_pg : PR E g [(g, .inr (8, [.ref d, .int (zI (cwP f n pos)), .int (zI siz), .ref r, .ref (r + 2), .ref (r + 4), .ref (r + 6), .ref (r + 8)]))] H3 := h_pg
      refine v_iconst X dX5_readArguments_135 136 rfl ?_
      subst hQ; exact m_zret X hr hlk hM dX5_readArguments_136 rfl (by omega) ⟨(sv (bz_f (by first | exact ⟨by assumption, by assumption, by assumption⟩ | exact ⟨by assumption, by assumption⟩ | (intro z; first | exact absurd z.1 (by assumption) | exact absurd z.2.1 (by assumption) | exact absurd z.2.2 (by assumption) | exact absurd z.2 (by assumption))))), (PR.to h_pg (by unfold quP; (repeat' split); all_goals first | rfl | contradiction | (exfalso; omega))), (PR.to h_pr (by unfold flG; (repeat' split); all_goals first | rfl | contradiction | (exfalso; omega)))⟩
    · skip
      rw [if_pos c_4] at h_pg
      replace h_pg : PR E g [(g, .inr (8, [.ref d, .int (zI ((cwP f n pos) + 1)), .int (zI siz), .ref r, .ref (r + 2), .ref (r + 4), .ref (r + 6), .ref (r + 8)]))] H3 := h_pg
      refine v_iconst X dX5_readArguments_131 132 rfl ?_
      refine v_goto X dX5_readArguments_132 136 (by decide) ?_
      subst hQ; exact m_zret X hr hlk hM dX5_readArguments_136 rfl (by omega) ⟨(sv (bz_t (by first | exact ⟨by assumption, by assumption, by assumption⟩ | exact ⟨by assumption, by assumption⟩ | (intro z; first | exact absurd z.1 (by assumption) | exact absurd z.2.1 (by assumption) | exact absurd z.2.2 (by assumption) | exact absurd z.2 (by assumption))))), (PR.to h_pg (by unfold quP; (repeat' split); all_goals first | rfl | contradiction | (exfalso; omega))), (PR.to h_pr (by unfold flG; (repeat' split); all_goals first | rfl | contradiction | (exfalso; omega)))⟩
set_option maxHeartbeats 4000000 in
set_option maxRecDepth 20000 in
theorem c_X5_readArguments_4 (l : Launch) (E : Nat → Nat → Nat) (g : Nat) (d : Nat) (r : Nat) (v : Nat) (N : Nat) (f : Int → Int) (pos : Int) (siz : Int) (ml : Int) (n : Int) (pr : Nat → Int → Int) (n0 : 0 ≤ n) (n1 : n ≤ (N : Int)) (N1 : N < 1000) (hf : ∀ j : Int, 0 ≤ f j ∧ f j < 128) (p0 : 0 ≤ pos) (p1 : pos ≤ 1000) (s0 : 0 ≤ siz) (s1 : siz < 8) (p2 : pos ≤ 800) (hd_pg_sb : g + 1 ≤ d ∨ d + 1 ≤ g) (hd_pg_sa : g + 1 ≤ v ∨ v + 1 ≤ g) (hd_pg_pr : g + 1 ≤ r ∨ r + 10 ≤ g) (hd_sb_pr : d + 1 ≤ r ∨ r + 10 ≤ d) (hd_sa_pr : v + 1 ≤ r ∨ r + 10 ≤ v) : Mu l yX5_readArguments cX5_readArguments 2 (some .boolean) 8 0 0 E [(g, 1), (r, 10)] [.ref g, .int (zI 4)] (fun H => PR E g [(g, .inr (8, [.ref d, .int (zI pos), .int (zI siz), .ref r, .ref (r + 2), .ref (r + 4), .ref (r + 6), .ref (r + 8)]))] H ∧ PR E d [(d, .inr (1, [.ref v, .int (zI 0), .int (zI ml), .int (zI n)]))] H ∧ PR E v [(v, .inl (E 102 2, N, .inl (zA f)))] H ∧ PR E r (prowsW E r pr) H) (fun rv H => (rv = some (.int (zI (bz (48 ≤ sgZ f n pos ∧ sgZ f n pos ≤ 57))))) ∧ PR E g [(g, .inr (8, [.ref d, .int (zI (nuP f n pos)), .int (zI siz), .ref r, .ref (r + 2), .ref (r + 4), .ref (r + 6), .ref (r + 8)]))] H ∧ PR E r (prowsW E r (updC pr 2 (nuG f n pos siz (pr 2)))) H) := by
  refine Mu.start (own := RX5) rfl (by decide +kernel) (Nat.le_of_ble_eq_true rfl) ?_
  intro p e s m below meth cd args Q hQ X hr hlk hnm hM hPr
  obtain ⟨h_pg, h_sb, h_sa, h_pr⟩ := hPr
  have hsb := sgZ_b hf n pos
  refine v_iload_n X dX5_readArguments_0 1 rfl 1 rfl ?_
  refine v_tabOut X (by omega) dX5_readArguments_1 (by omega) 137 (by decide) ?_
  refine v_aload_n X dX5_readArguments_137 138 rfl 0 rfl ?_
  refine v_aload_n X dX5_readArguments_138 139 rfl 0 rfl ?_
  refine v_getf X hM.C h_pg.1 inX5 0 rfl rfl 4 (by decide) kf_X5_34 (fun _ h => h) rfl dX5_readArguments_139 142 rfl ?_
  refine v_muV X hM (h_pg.1) (c_X5_readNumber l E g d r v N f pos siz ml n (r + 2) (pr 2) n0 n1 N1 hf p0 p1 s0 s1 (by omega) hd_pg_sb hd_pg_sa (by omega) (by omega) (by omega)) kvX5_readNumber kiX5_readNumber kl_X5_109 (q0 := 0) rfl rfl (As := [.ref (r + 2)]) rfl rfl rfl dX5_readArguments_142 145 rfl (k' := 0) (n' := 0) rfl rfl (by intro q hq; simp only [Fr, Fs, or_false, false_or] at hq ⊢; omega) ⟨h_pg, h_sb, h_sa, (h_pr.sub 2 2 rfl (wc := rowW E (r + 2) 8 (pr 2)) rfl)⟩ (fun rv H1 lo1 hM hF hpo => ?_)
  obtain ⟨rfl, hw_0, hw_1⟩ := hpo
  have h_pg : PR E g [(g, .inr (8, [.ref d, .int (zI (nuP f n pos)), .int (zI siz), .ref r, .ref (r + 2), .ref (r + 4), .ref (r + 6), .ref (r + 8)]))] H1 := hw_0
  have h_pr := h_pr.joinG 2 2 10 rfl rfl hw_1 hF (by intro q q1 q2 q3; simp only [Fs, or_false] at q3; omega) rfl (Nat.le_of_ble_eq_true rfl) (ws' := prowsW E r (updC pr 2 (nuG f n pos siz (pr 2)))) rfl
  replace h_sb := h_sb.kept hF 1 rfl (by intro q q1 q2 q3; simp only [Fs, or_false] at q3; omega)
  replace h_sa := h_sa.kept hF 1 rfl (by intro q q1 q2 q3; simp only [Fs, or_false] at q3; omega)
  show V p l e (rmL 8 0 0) s m args below meth cd Q 2 H1 lo1 0 0 145 [(0, .ref g), (1, .int (zI 4))] [.int (zI (bz (48 ≤ sgZ f n pos ∧ sgZ f n pos ≤ 57)))]
  subst hQ; exact m_zret X hr hlk hM dX5_readArguments_145 rfl bz_01 ⟨rfl, h_pg, h_pr⟩
set_option maxHeartbeats 4000000 in
set_option maxRecDepth 20000 in
theorem c_X5_readArguments_5 (l : Launch) (E : Nat → Nat → Nat) (g : Nat) (d : Nat) (r : Nat) (v : Nat) (N : Nat) (f : Int → Int) (pos : Int) (siz : Int) (ml : Int) (n : Int) (pr : Nat → Int → Int) (n0 : 0 ≤ n) (n1 : n ≤ (N : Int)) (N1 : N < 1000) (hf : ∀ j : Int, 0 ≤ f j ∧ f j < 128) (p0 : 0 ≤ pos) (p1 : pos ≤ 1000) (s0 : 0 ≤ siz) (s1 : siz < 8) (p2 : pos ≤ 800) (hd_pg_sb : g + 1 ≤ d ∨ d + 1 ≤ g) (hd_pg_sa : g + 1 ≤ v ∨ v + 1 ≤ g) (hd_pg_pr : g + 1 ≤ r ∨ r + 10 ≤ g) (hd_sb_pr : d + 1 ≤ r ∨ r + 10 ≤ d) (hd_sa_pr : v + 1 ≤ r ∨ r + 10 ≤ v) : Mu l yX5_readArguments cX5_readArguments 2 (some .boolean) 8 0 0 E [(g, 1), (r, 10)] [.ref g, .int (zI 5)] (fun H => PR E g [(g, .inr (8, [.ref d, .int (zI pos), .int (zI siz), .ref r, .ref (r + 2), .ref (r + 4), .ref (r + 6), .ref (r + 8)]))] H ∧ PR E d [(d, .inr (1, [.ref v, .int (zI 0), .int (zI ml), .int (zI n)]))] H ∧ PR E v [(v, .inl (E 102 2, N, .inl (zA f)))] H ∧ PR E r (prowsW E r pr) H) (fun rv H => (rv = some (.int (zI (bz (48 ≤ sgZ f n pos ∧ sgZ f n pos ≤ 57))))) ∧ PR E g [(g, .inr (8, [.ref d, .int (zI (nuP f n pos)), .int (zI siz), .ref r, .ref (r + 2), .ref (r + 4), .ref (r + 6), .ref (r + 8)]))] H ∧ PR E r (prowsW E r (updC pr 2 (nuG f n pos siz (pr 2)))) H) := by
  refine Mu.start (own := RX5) rfl (by decide +kernel) (Nat.le_of_ble_eq_true rfl) ?_
  intro p e s m below meth cd args Q hQ X hr hlk hnm hM hPr
  obtain ⟨h_pg, h_sb, h_sa, h_pr⟩ := hPr
  have hsb := sgZ_b hf n pos
  refine v_iload_n X dX5_readArguments_0 1 rfl 1 rfl ?_
  refine v_tabOut X (by omega) dX5_readArguments_1 (by omega) 137 (by decide) ?_
  refine v_aload_n X dX5_readArguments_137 138 rfl 0 rfl ?_
  refine v_aload_n X dX5_readArguments_138 139 rfl 0 rfl ?_
  refine v_getf X hM.C h_pg.1 inX5 0 rfl rfl 4 (by decide) kf_X5_34 (fun _ h => h) rfl dX5_readArguments_139 142 rfl ?_
  refine v_muV X hM (h_pg.1) (c_X5_readNumber l E g d r v N f pos siz ml n (r + 2) (pr 2) n0 n1 N1 hf p0 p1 s0 s1 (by omega) hd_pg_sb hd_pg_sa (by omega) (by omega) (by omega)) kvX5_readNumber kiX5_readNumber kl_X5_109 (q0 := 0) rfl rfl (As := [.ref (r + 2)]) rfl rfl rfl dX5_readArguments_142 145 rfl (k' := 0) (n' := 0) rfl rfl (by intro q hq; simp only [Fr, Fs, or_false, false_or] at hq ⊢; omega) ⟨h_pg, h_sb, h_sa, (h_pr.sub 2 2 rfl (wc := rowW E (r + 2) 8 (pr 2)) rfl)⟩ (fun rv H1 lo1 hM hF hpo => ?_)
  obtain ⟨rfl, hw_0, hw_1⟩ := hpo
  have h_pg : PR E g [(g, .inr (8, [.ref d, .int (zI (nuP f n pos)), .int (zI siz), .ref r, .ref (r + 2), .ref (r + 4), .ref (r + 6), .ref (r + 8)]))] H1 := hw_0
  have h_pr := h_pr.joinG 2 2 10 rfl rfl hw_1 hF (by intro q q1 q2 q3; simp only [Fs, or_false] at q3; omega) rfl (Nat.le_of_ble_eq_true rfl) (ws' := prowsW E r (updC pr 2 (nuG f n pos siz (pr 2)))) rfl
  replace h_sb := h_sb.kept hF 1 rfl (by intro q q1 q2 q3; simp only [Fs, or_false] at q3; omega)
  replace h_sa := h_sa.kept hF 1 rfl (by intro q q1 q2 q3; simp only [Fs, or_false] at q3; omega)
  show V p l e (rmL 8 0 0) s m args below meth cd Q 2 H1 lo1 0 0 145 [(0, .ref g), (1, .int (zI 5))] [.int (zI (bz (48 ≤ sgZ f n pos ∧ sgZ f n pos ≤ 57)))]
  subst hQ; exact m_zret X hr hlk hM dX5_readArguments_145 rfl bz_01 ⟨rfl, h_pg, h_pr⟩
set_option maxHeartbeats 4000000 in
set_option maxRecDepth 20000 in
theorem c_X5_readArguments_6 (l : Launch) (E : Nat → Nat → Nat) (g : Nat) (d : Nat) (r : Nat) (v : Nat) (N : Nat) (f : Int → Int) (pos : Int) (siz : Int) (ml : Int) (n : Int) (pr : Nat → Int → Int) (n0 : 0 ≤ n) (n1 : n ≤ (N : Int)) (N1 : N < 1000) (hf : ∀ j : Int, 0 ≤ f j ∧ f j < 128) (p0 : 0 ≤ pos) (p1 : pos ≤ 1000) (s0 : 0 ≤ siz) (s1 : siz < 8) (p2 : pos ≤ 800) (hd_pg_sb : g + 1 ≤ d ∨ d + 1 ≤ g) (hd_pg_sa : g + 1 ≤ v ∨ v + 1 ≤ g) (hd_pg_pr : g + 1 ≤ r ∨ r + 10 ≤ g) (hd_sb_pr : d + 1 ≤ r ∨ r + 10 ≤ d) (hd_sa_pr : v + 1 ≤ r ∨ r + 10 ≤ v) : Mu l yX5_readArguments cX5_readArguments 2 (some .boolean) 8 0 0 E [(g, 1), (r, 10)] [.ref g, .int (zI 6)] (fun H => PR E g [(g, .inr (8, [.ref d, .int (zI pos), .int (zI siz), .ref r, .ref (r + 2), .ref (r + 4), .ref (r + 6), .ref (r + 8)]))] H ∧ PR E d [(d, .inr (1, [.ref v, .int (zI 0), .int (zI ml), .int (zI n)]))] H ∧ PR E v [(v, .inl (E 102 2, N, .inl (zA f)))] H ∧ PR E r (prowsW E r pr) H) (fun rv H => (rv = some (.int (zI (bz (48 ≤ sgZ f n pos ∧ sgZ f n pos ≤ 57))))) ∧ PR E g [(g, .inr (8, [.ref d, .int (zI (nuP f n pos)), .int (zI siz), .ref r, .ref (r + 2), .ref (r + 4), .ref (r + 6), .ref (r + 8)]))] H ∧ PR E r (prowsW E r (updC pr 2 (nuG f n pos siz (pr 2)))) H) := by
  refine Mu.start (own := RX5) rfl (by decide +kernel) (Nat.le_of_ble_eq_true rfl) ?_
  intro p e s m below meth cd args Q hQ X hr hlk hnm hM hPr
  obtain ⟨h_pg, h_sb, h_sa, h_pr⟩ := hPr
  have hsb := sgZ_b hf n pos
  refine v_iload_n X dX5_readArguments_0 1 rfl 1 rfl ?_
  refine v_tabOut X (by omega) dX5_readArguments_1 (by omega) 137 (by decide) ?_
  refine v_aload_n X dX5_readArguments_137 138 rfl 0 rfl ?_
  refine v_aload_n X dX5_readArguments_138 139 rfl 0 rfl ?_
  refine v_getf X hM.C h_pg.1 inX5 0 rfl rfl 4 (by decide) kf_X5_34 (fun _ h => h) rfl dX5_readArguments_139 142 rfl ?_
  refine v_muV X hM (h_pg.1) (c_X5_readNumber l E g d r v N f pos siz ml n (r + 2) (pr 2) n0 n1 N1 hf p0 p1 s0 s1 (by omega) hd_pg_sb hd_pg_sa (by omega) (by omega) (by omega)) kvX5_readNumber kiX5_readNumber kl_X5_109 (q0 := 0) rfl rfl (As := [.ref (r + 2)]) rfl rfl rfl dX5_readArguments_142 145 rfl (k' := 0) (n' := 0) rfl rfl (by intro q hq; simp only [Fr, Fs, or_false, false_or] at hq ⊢; omega) ⟨h_pg, h_sb, h_sa, (h_pr.sub 2 2 rfl (wc := rowW E (r + 2) 8 (pr 2)) rfl)⟩ (fun rv H1 lo1 hM hF hpo => ?_)
  obtain ⟨rfl, hw_0, hw_1⟩ := hpo
  have h_pg : PR E g [(g, .inr (8, [.ref d, .int (zI (nuP f n pos)), .int (zI siz), .ref r, .ref (r + 2), .ref (r + 4), .ref (r + 6), .ref (r + 8)]))] H1 := hw_0
  have h_pr := h_pr.joinG 2 2 10 rfl rfl hw_1 hF (by intro q q1 q2 q3; simp only [Fs, or_false] at q3; omega) rfl (Nat.le_of_ble_eq_true rfl) (ws' := prowsW E r (updC pr 2 (nuG f n pos siz (pr 2)))) rfl
  replace h_sb := h_sb.kept hF 1 rfl (by intro q q1 q2 q3; simp only [Fs, or_false] at q3; omega)
  replace h_sa := h_sa.kept hF 1 rfl (by intro q q1 q2 q3; simp only [Fs, or_false] at q3; omega)
  show V p l e (rmL 8 0 0) s m args below meth cd Q 2 H1 lo1 0 0 145 [(0, .ref g), (1, .int (zI 6))] [.int (zI (bz (48 ≤ sgZ f n pos ∧ sgZ f n pos ≤ 57)))]
  subst hQ; exact m_zret X hr hlk hM dX5_readArguments_145 rfl bz_01 ⟨rfl, h_pg, h_pr⟩
