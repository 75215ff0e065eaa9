/-! the line's texts -/
def phT (co : Nat → Int → Int) (k : Int) : Int := if co 3 k = 0 then 111 else if co 4 k = 0 then 110 else 103
def clT (co : Nat → Int → Int) (k : Int) : List Int := if co 3 k = 2 then [46] else []
def hdT (co : Nat → Int → Int) (k : Int) : List Int := nmT k ++ [58] ++ [48 + co 1 k] ++ [47] ++ [48 + co 2 k] ++ [phT co k] ++ clT co k
def sgT (co : Nat → Int → Int) (k w : Int) : Int := if 0 < co 8 (k * 8 + w) then 43 else 45
def tsT (T : List Int) (co : Nat → Int → Int) (k w : Int) : List Int := T ++ [32] ++ [sgT co k w] ++ [48 + w] ++ [42] ++ [48 + co 9 (k * 8 + w)]
def lnT (co : Nat → Int → Int) (k : Int) : Nat → List Int
  | 0 => hdT co k
  | i + 1 => tsT (lnT co k i) co k (co 7 (k * 6 + (i : Int)))
def wtT (co : Nat → Int → Int) (w : Int) : List Int := [] ++ [119] ++ [48 + w] ++ [61] ++ [48 + co 11 w]
set_option maxHeartbeats 4000000 in
set_option maxRecDepth 20000 in
theorem c_X9_writeHead (l : Launch) (E : Nat → Nat → Nat) (x : Nat) (co : Nat → Int → Int) (hs : Int) (er : Int) (fa : Int) (ss : Int) (v : Nat) (N : Nat) (f : Int → Int) (ml : Int) (k : Int) (z : Nat) (hO : OkC co) (k0 : 0 ≤ k) (k1 : k < 16) (hT : SBs f N 0 []) (hbz : x + 334 ≤ z) (hd_cm_sb : x + 1 ≤ x + 332 ∨ x + 332 + 1 ≤ x) (hd_cm_sa : x + 1 ≤ v ∨ v + 1 ≤ x) (hd_co_sb : x + 1 + 28 ≤ x + 332 ∨ x + 332 + 1 ≤ x + 1) (hd_co_sa : x + 1 + 28 ≤ v ∨ v + 1 ≤ x + 1) (hd_sb_sa : x + 332 + 1 ≤ v ∨ v + 1 ≤ x + 332) : Mu l yX9_writeHead cX9_writeHead 2 none 6 7 490 E [(x + 332, 1), (v, 1)] [.ref x, .int (zI k)] (fun H => PR E x [(x, .inr (11, [.ref (x + 1), .ref (x + 29), .ref (x + 57), .ref (x + 85), .ref (x + 311), .ref (x + 314), .ref (x + 319), .ref (x + 332), .int (zI hs), .int (zI er), .int (zI fa), .int (zI ss)]))] H ∧ PR E (x + 1) (courtW E (x + 1) co) H ∧ PR E (x + 332) [(x + 332, .inr (1, [.ref v, .int (zI 0), .int (zI ml), .int (zI 0)]))] H ∧ PR E v [(v, .inl (E 102 2, N, .inl (zA f)))] H ∧ z ≤ H.size) (fun rv H => ∃ v1 : Nat, ∃ N1 : Nat, ∃ f1 : Int → Int, ∃ n1 : Int, rv = none ∧ (v1 = v ∨ z ≤ v1) ∧ SBs f1 N1 n1 (hdT co k) ∧ (0 ≤ n1 ∧ n1 ≤ 8) ∧ PR E (x + 332) [(x + 332, .inr (1, [.ref v1, .int (zI 0), .int (zI ml), .int (zI n1)]))] H ∧ PR E v1 [(v1, .inl (E 102 2, N1, .inl (zA f1)))] H) := by
  refine Mu.start (own := RX9) rfl (by decide +kernel) (Nat.le_of_ble_eq_true rfl) ?_
  intro p e s m below meth cd args Q hQ X hr hlk hnm hM hPr
  obtain ⟨h_cm, h_co, h_sb, h_sa, hzl⟩ := hPr
  have hz : s.heap.size = s.heap.size := rfl
  have hzl0 := hzl
  have hb0 := hO.b0
  have hbw := hO.bw
  have hbs : x + 332 < s.heap.size := (h_sb.1 0 _ rfl).lt
  refine v_aload_n X dX9_writeHead_0 1 rfl 0 rfl ?_
  refine v_getf X hM.C h_cm.1 inX9 0 rfl rfl 7 (by decide) kf_X9_53 (fun _ h => h) rfl dX9_writeHead_1 4 rfl ?_
  refine v_iload_n X dX9_writeHead_4 5 rfl 1 rfl ?_
  have hsz9 : s.heap.size ≤ s.heap.size := hM.1.1
  refine v_muV X hM (h_sb.1) (c_J4_appN l E (x + 332) v N f ml 0 s.heap.size k [] k0 (by omega) (by omega) hT (by omega) (by omega)) kvJ4_append_bf812 kiJ4_append_bf812 kl_X9_305 (q0 := 0) rfl rfl (As := [.int (zI k)]) rfl rfl rfl dX9_writeHead_5 8 rfl (k' := 1) (n' := 70) rfl rfl (by intro q hq; simp only [Fr, Fs, or_false, false_or] at hq ⊢; omega) ⟨h_sb, h_sa, (by omega)⟩ (fun rv H1 lo1 hM hF hpo => ?_)
  obtain ⟨v1_2, N1_3, f1_4, n1_5, rfl, hp_f_6, hp_f_7, hp_f_8, hw_0, hw_1⟩ := hpo
  have h_sb : PR E (x + 332) [(x + 332, .inr (1, [.ref v1_2, .int (zI 0), .int (zI ml), .int (zI n1_5)]))] H1 := hw_0
  have h_sa : PR E v1_2 [(v1_2, .inl (E 102 2, N1_3, .inl (zA f1_4)))] H1 := hw_1
  replace hzl := Nat.le_trans hzl hF.1
  replace h_cm := h_cm.kept hF 1 rfl (by intro q q1 q2 q3; simp only [Fs, or_false] at q3; omega)
  replace h_co := h_co.kept hF 28 rfl (by intro q q1 q2 q3; simp only [Fs, or_false] at q3; omega)
  show V p l e (rmL 6 7 490) s m args below meth cd Q 2 H1 lo1 1 70 8 [(0, .ref x), (1, .int (zI k))] [.ref (x + 332)]
  clear hsz9
  refine v_pop X dX9_writeHead_8 9 rfl rfl ?_
  refine v_aload_n X dX9_writeHead_9 10 rfl 0 rfl ?_
  refine v_getf X hM.C h_cm.1 inX9 0 rfl rfl 7 (by decide) kf_X9_53 (fun _ h => h) rfl dX9_writeHead_10 13 rfl ?_
  refine v_bipush X dX9_writeHead_13 15 rfl rfl ?_
  have hsz9 : s.heap.size ≤ H1.size := hM.1.1
  refine v_muV X hM (h_sb.1) (c_J4_appC l E (x + 332) v1_2 N1_3 f1_4 ml n1_5 s.heap.size 58 ([] ++ nmT k) (by omega) (by omega) (by omega) hp_f_7 (by omega) (by omega)) kvJ4_append_cf468 kiJ4_append_cf468 kl_X9_301 (q0 := 0) rfl rfl (As := [.int (zI 58)]) rfl rfl rfl dX9_writeHead_15 18 rfl (k' := 2) (n' := 140) rfl rfl (by intro q hq; simp only [Fr, Fs, or_false, false_or] at hq ⊢; omega) ⟨h_sb, h_sa, (by omega)⟩ (fun rv H9 lo9 hM hF hpo => ?_)
  obtain ⟨v1_10, N1_11, f1_12, rfl, hp_f_13, hp_f_14, hw_0, hw_1⟩ := hpo
  have h_sb : PR E (x + 332) [(x + 332, .inr (1, [.ref v1_10, .int (zI 0), .int (zI ml), .int (zI (n1_5 + 1))]))] H9 := hw_0
  have h_sa : PR E v1_10 [(v1_10, .inl (E 102 2, N1_11, .inl (zA f1_12)))] H9 := hw_1
  replace hzl := Nat.le_trans hzl hF.1
  replace h_cm := h_cm.kept hF 1 rfl (by intro q q1 q2 q3; simp only [Fs, or_false] at q3; omega)
  replace h_co := h_co.kept hF 28 rfl (by intro q q1 q2 q3; simp only [Fs, or_false] at q3; omega)
  show V p l e (rmL 6 7 490) s m args below meth cd Q 2 H9 lo9 2 140 18 [(0, .ref x), (1, .int (zI k))] [.ref (x + 332)]
  clear hsz9
  replace hp_f_13 : v1_10 = v ∨ s.heap.size ≤ v1_10 := by omega
  clear hp_f_6
  refine v_pop X dX9_writeHead_18 19 rfl rfl ?_
  refine v_aload_n X dX9_writeHead_19 20 rfl 0 rfl ?_
  refine v_getf X hM.C h_cm.1 inX9 0 rfl rfl 7 (by decide) kf_X9_53 (fun _ h => h) rfl dX9_writeHead_20 23 rfl ?_
  refine v_aload_n X dX9_writeHead_23 24 rfl 0 rfl ?_
  refine v_getf X hM.C h_cm.1 inX9 0 rfl rfl 0 (by decide) kf_X9_10 (fun _ h => h) rfl dX9_writeHead_24 27 rfl ?_
  refine v_getfN X hM.C h_co.1 inX0 0 rfl rfl 4 (by decide) kfn_X9_105 (fun _ h => h) rfl dX9_writeHead_27 30 rfl ?_
  refine v_iload_n X dX9_writeHead_30 31 rfl 1 rfl ?_
  refine v_rdV X hM.C (PW.part h_co.1 1 2 (wc := rowW E (x + 2) 16 (co 1)) rfl) (c_X6_get l E (x + 2) 16 (co 1) k k0 k1 (by omega)) kvX6_get kiX6_get kl_X9_109 rfl rfl (As := [.int (zI k)]) rfl rfl rfl dX9_writeHead_31 34 rfl ?_
  show V p l e (rmL 6 7 490) s m args below meth cd Q 2 H9 lo9 2 140 34 [(0, .ref x), (1, .int (zI k))] [.int (zI (co 1 k)), .ref (x + 332)]
  have hb_15 := hO.b1 k
  have hsz9 : s.heap.size ≤ H9.size := hM.1.1
  refine v_muV X hM (h_sb.1) (c_J4_appS l E (x + 332) v1_10 N1_11 f1_12 ml (n1_5 + 1) s.heap.size (co 1 k) (([] ++ nmT k) ++ [58]) (by omega) (by omega) (by omega) hp_f_14 (by omega) (by omega)) kvJ4_append_bf812 kiJ4_append_bf812 kl_X9_305 (q0 := 0) rfl rfl (As := [.int (zI (co 1 k))]) rfl rfl rfl dX9_writeHead_34 37 rfl (k' := 3) (n' := 210) rfl rfl (by intro q hq; simp only [Fr, Fs, or_false, false_or] at hq ⊢; omega) ⟨h_sb, h_sa, (by omega)⟩ (fun rv H16 lo16 hM hF hpo => ?_)
  obtain ⟨v1_17, N1_18, f1_19, rfl, hp_f_20, hp_f_21, hw_0, hw_1⟩ := hpo
  have h_sb : PR E (x + 332) [(x + 332, .inr (1, [.ref v1_17, .int (zI 0), .int (zI ml), .int (zI ((n1_5 + 1) + 1))]))] H16 := hw_0
  have h_sa : PR E v1_17 [(v1_17, .inl (E 102 2, N1_18, .inl (zA f1_19)))] H16 := hw_1
  replace hzl := Nat.le_trans hzl hF.1
  replace h_cm := h_cm.kept hF 1 rfl (by intro q q1 q2 q3; simp only [Fs, or_false] at q3; omega)
  replace h_co := h_co.kept hF 28 rfl (by intro q q1 q2 q3; simp only [Fs, or_false] at q3; omega)
  show V p l e (rmL 6 7 490) s m args below meth cd Q 2 H16 lo16 3 210 37 [(0, .ref x), (1, .int (zI k))] [.ref (x + 332)]
  clear hsz9
  replace hp_f_20 : v1_17 = v ∨ s.heap.size ≤ v1_17 := by omega
  clear hp_f_13
  refine v_pop X dX9_writeHead_37 38 rfl rfl ?_
  refine v_aload_n X dX9_writeHead_38 39 rfl 0 rfl ?_
  refine v_getf X hM.C h_cm.1 inX9 0 rfl rfl 7 (by decide) kf_X9_53 (fun _ h => h) rfl dX9_writeHead_39 42 rfl ?_
  refine v_bipush X dX9_writeHead_42 44 rfl rfl ?_
  have hsz9 : s.heap.size ≤ H16.size := hM.1.1
  refine v_muV X hM (h_sb.1) (c_J4_appC l E (x + 332) v1_17 N1_18 f1_19 ml ((n1_5 + 1) + 1) s.heap.size 47 ((([] ++ nmT k) ++ [58]) ++ [48 + (co 1 k)]) (by omega) (by omega) (by omega) hp_f_21 (by omega) (by omega)) kvJ4_append_cf468 kiJ4_append_cf468 kl_X9_301 (q0 := 0) rfl rfl (As := [.int (zI 47)]) rfl rfl rfl dX9_writeHead_44 47 rfl (k' := 4) (n' := 280) rfl rfl (by intro q hq; simp only [Fr, Fs, or_false, false_or] at hq ⊢; omega) ⟨h_sb, h_sa, (by omega)⟩ (fun rv H22 lo22 hM hF hpo => ?_)
  obtain ⟨v1_23, N1_24, f1_25, rfl, hp_f_26, hp_f_27, hw_0, hw_1⟩ := hpo
  have h_sb : PR E (x + 332) [(x + 332, .inr (1, [.ref v1_23, .int (zI 0), .int (zI ml), .int (zI (((n1_5 + 1) + 1) + 1))]))] H22 := hw_0
  have h_sa : PR E v1_23 [(v1_23, .inl (E 102 2, N1_24, .inl (zA f1_25)))] H22 := hw_1
  replace hzl := Nat.le_trans hzl hF.1
  replace h_cm := h_cm.kept hF 1 rfl (by intro q q1 q2 q3; simp only [Fs, or_false] at q3; omega)
  replace h_co := h_co.kept hF 28 rfl (by intro q q1 q2 q3; simp only [Fs, or_false] at q3; omega)
  show V p l e (rmL 6 7 490) s m args below meth cd Q 2 H22 lo22 4 280 47 [(0, .ref x), (1, .int (zI k))] [.ref (x + 332)]
  clear hsz9
  replace hp_f_26 : v1_23 = v ∨ s.heap.size ≤ v1_23 := by omega
  clear hp_f_20
  refine v_pop X dX9_writeHead_47 48 rfl rfl ?_
  refine v_aload_n X dX9_writeHead_48 49 rfl 0 rfl ?_
  refine v_getf X hM.C h_cm.1 inX9 0 rfl rfl 7 (by decide) kf_X9_53 (fun _ h => h) rfl dX9_writeHead_49 52 rfl ?_
  refine v_aload_n X dX9_writeHead_52 53 rfl 0 rfl ?_
  refine v_getf X hM.C h_cm.1 inX9 0 rfl rfl 0 (by decide) kf_X9_10 (fun _ h => h) rfl dX9_writeHead_53 56 rfl ?_
  refine v_getfN X hM.C h_co.1 inX0 0 rfl rfl 5 (by decide) kfn_X9_115 (fun _ h => h) rfl dX9_writeHead_56 59 rfl ?_
  refine v_iload_n X dX9_writeHead_59 60 rfl 1 rfl ?_
  refine v_rdV X hM.C (PW.part h_co.1 3 2 (wc := rowW E (x + 4) 16 (co 2)) rfl) (c_X6_get l E (x + 4) 16 (co 2) k k0 k1 (by omega)) kvX6_get kiX6_get kl_X9_109 rfl rfl (As := [.int (zI k)]) rfl rfl rfl dX9_writeHead_60 63 rfl ?_
  show V p l e (rmL 6 7 490) s m args below meth cd Q 2 H22 lo22 4 280 63 [(0, .ref x), (1, .int (zI k))] [.int (zI (co 2 k)), .ref (x + 332)]
  have hb_28 := hO.b2 k
  have hsz9 : s.heap.size ≤ H22.size := hM.1.1
  refine v_muV X hM (h_sb.1) (c_J4_appS l E (x + 332) v1_23 N1_24 f1_25 ml (((n1_5 + 1) + 1) + 1) s.heap.size (co 2 k) (((([] ++ nmT k) ++ [58]) ++ [48 + (co 1 k)]) ++ [47]) (by omega) (by omega) (by omega) hp_f_27 (by omega) (by omega)) kvJ4_append_bf812 kiJ4_append_bf812 kl_X9_305 (q0 := 0) rfl rfl (As := [.int (zI (co 2 k))]) rfl rfl rfl dX9_writeHead_63 66 rfl (k' := 5) (n' := 350) rfl rfl (by intro q hq; simp only [Fr, Fs, or_false, false_or] at hq ⊢; omega) ⟨h_sb, h_sa, (by omega)⟩ (fun rv H29 lo29 hM hF hpo => ?_)
  obtain ⟨v1_30, N1_31, f1_32, rfl, hp_f_33, hp_f_34, hw_0, hw_1⟩ := hpo
  have h_sb : PR E (x + 332) [(x + 332, .inr (1, [.ref v1_30, .int (zI 0), .int (zI ml), .int (zI ((((n1_5 + 1) + 1) + 1) + 1))]))] H29 := hw_0
  have h_sa : PR E v1_30 [(v1_30, .inl (E 102 2, N1_31, .inl (zA f1_32)))] H29 := hw_1
  replace hzl := Nat.le_trans hzl hF.1
  replace h_cm := h_cm.kept hF 1 rfl (by intro q q1 q2 q3; simp only [Fs, or_false] at q3; omega)
  replace h_co := h_co.kept hF 28 rfl (by intro q q1 q2 q3; simp only [Fs, or_false] at q3; omega)
  show V p l e (rmL 6 7 490) s m args below meth cd Q 2 H29 lo29 5 350 66 [(0, .ref x), (1, .int (zI k))] [.ref (x + 332)]
  clear hsz9
  replace hp_f_33 : v1_30 = v ∨ s.heap.size ≤ v1_30 := by omega
  clear hp_f_26
  refine v_pop X dX9_writeHead_66 67 rfl rfl ?_
  refine v_aload_n X dX9_writeHead_67 68 rfl 0 rfl ?_
  refine v_getf X hM.C h_cm.1 inX9 0 rfl rfl 0 (by decide) kf_X9_10 (fun _ h => h) rfl dX9_writeHead_68 71 rfl ?_
  refine v_iconst X dX9_writeHead_71 72 rfl ?_
  refine v_iload_n X dX9_writeHead_72 73 rfl 1 rfl ?_
  refine v_rdV X hM.C h_co.1 (c_X0_isIn l E (x + 1) co 0 k hO k0 k1 (by omega)) kvX0_isIn kiX0_isIn kl_X9_118 rfl rfl (As := [.int (zI 0), .int (zI k)]) rfl rfl rfl dX9_writeHead_73 76 rfl ?_
  show V p l e (rmL 6 7 490) s m args below meth cd Q 2 H29 lo29 5 350 76 [(0, .ref x), (1, .int (zI k))] [.int (zI (bz (co 3 k = 0)))]
  refine v_bif_eq X dX9_writeHead_76 79 92 rfl (by decide) (fun c_35 => ?_) (fun c_35 => ?_)
  · skip
    refine v_aload_n X dX9_writeHead_92 93 rfl 0 rfl ?_
    refine v_getf X hM.C h_cm.1 inX9 0 rfl rfl 7 (by decide) kf_X9_53 (fun _ h => h) rfl dX9_writeHead_93 96 rfl ?_
    refine v_aload_n X dX9_writeHead_96 97 rfl 0 rfl ?_
    refine v_getf X hM.C h_cm.1 inX9 0 rfl rfl 0 (by decide) kf_X9_10 (fun _ h => h) rfl dX9_writeHead_97 100 rfl ?_
    refine v_iload_n X dX9_writeHead_100 101 rfl 1 rfl ?_
    refine v_rdV X hM.C h_co.1 (c_X0_isFoundGuilty l E (x + 1) co k hO k0 k1) kvX0_isFoundGuilty kiX0_isFoundGuilty kl_X9_127 rfl rfl (As := [.int (zI k)]) rfl rfl rfl dX9_writeHead_101 104 rfl ?_
    show V p l e (rmL 6 7 490) s m args below meth cd Q 2 H29 lo29 5 350 104 [(0, .ref x), (1, .int (zI k))] [.int (zI (bz (¬ co 4 k = 0))), .ref (x + 332)]
    refine v_bif_eq X dX9_writeHead_104 107 112 rfl (by decide) (fun c_36 => ?_) (fun c_36 => ?_)
    · skip
      refine v_bipush X dX9_writeHead_112 114 rfl rfl ?_
      have hsz9 : s.heap.size ≤ H29.size := hM.1.1
      refine v_muV X hM (h_sb.1) (c_J4_appC l E (x + 332) v1_30 N1_31 f1_32 ml ((((n1_5 + 1) + 1) + 1) + 1) s.heap.size 110 ((((([] ++ nmT k) ++ [58]) ++ [48 + (co 1 k)]) ++ [47]) ++ [48 + (co 2 k)]) (by omega) (by omega) (by omega) hp_f_34 (by omega) (by omega)) kvJ4_append_cf468 kiJ4_append_cf468 kl_X9_301 (q0 := 0) rfl rfl (As := [.int (zI 110)]) rfl rfl rfl dX9_writeHead_114 117 rfl (k' := 6) (n' := 420) rfl rfl (by intro q hq; simp only [Fr, Fs, or_false, false_or] at hq ⊢; omega) ⟨h_sb, h_sa, (by omega)⟩ (fun rv H37 lo37 hM hF hpo => ?_)
      obtain ⟨v1_38, N1_39, f1_40, rfl, hp_f_41, hp_f_42, hw_0, hw_1⟩ := hpo
      have h_sb : PR E (x + 332) [(x + 332, .inr (1, [.ref v1_38, .int (zI 0), .int (zI ml), .int (zI (((((n1_5 + 1) + 1) + 1) + 1) + 1))]))] H37 := hw_0
      have h_sa : PR E v1_38 [(v1_38, .inl (E 102 2, N1_39, .inl (zA f1_40)))] H37 := hw_1
      replace hzl := Nat.le_trans hzl hF.1
      replace h_cm := h_cm.kept hF 1 rfl (by intro q q1 q2 q3; simp only [Fs, or_false] at q3; omega)
      replace h_co := h_co.kept hF 28 rfl (by intro q q1 q2 q3; simp only [Fs, or_false] at q3; omega)
      show V p l e (rmL 6 7 490) s m args below meth cd Q 2 H37 lo37 6 420 117 [(0, .ref x), (1, .int (zI k))] [.ref (x + 332)]
      clear hsz9
      replace hp_f_41 : v1_38 = v ∨ s.heap.size ≤ v1_38 := by omega
      clear hp_f_33
      refine v_pop X dX9_writeHead_117 118 rfl rfl ?_
      refine v_aload_n X dX9_writeHead_118 119 rfl 0 rfl ?_
      refine v_getf X hM.C h_cm.1 inX9 0 rfl rfl 0 (by decide) kf_X9_10 (fun _ h => h) rfl dX9_writeHead_119 122 rfl ?_
      refine v_iconst X dX9_writeHead_122 123 rfl ?_
      refine v_iload_n X dX9_writeHead_123 124 rfl 1 rfl ?_
      refine v_rdV X hM.C h_co.1 (c_X0_isIn l E (x + 1) co 2 k hO k0 k1 (by omega)) kvX0_isIn kiX0_isIn kl_X9_118 rfl rfl (As := [.int (zI 2), .int (zI k)]) rfl rfl rfl dX9_writeHead_124 127 rfl ?_
      show V p l e (rmL 6 7 490) s m args below meth cd Q 2 H37 lo37 6 420 127 [(0, .ref x), (1, .int (zI k))] [.int (zI (bz (co 3 k = 2)))]
      refine v_bif_eq X dX9_writeHead_127 130 140 rfl (by decide) (fun c_43 => ?_) (fun c_43 => ?_)
      · skip
        subst hQ; exact m_vret X hr hlk hM dX9_writeHead_140 rfl ⟨v1_38, N1_39, f1_40, (((((n1_5 + 1) + 1) + 1) + 1) + 1), rfl, (by omega), (by rw [show hdT co k = ((((([] ++ nmT k) ++ [58]) ++ [48 + (co 1 k)]) ++ [47]) ++ [48 + (co 2 k)]) ++ [110] by (have e1 : phT co k = 110 := by (unfold phT; first | rw [if_pos (by omega)] | rw [if_neg (by omega), if_pos (by omega)] | rw [if_neg (by omega), if_neg (by omega)])); (have e2 : clT co k = [] := by (unfold clT; rw [if_neg (by omega)])); rw [hdT, e1, e2, List.append_nil] <;> rfl]; exact hp_f_42), (by omega), h_sb, h_sa⟩
      · skip
        refine v_aload_n X dX9_writeHead_130 131 rfl 0 rfl ?_
        refine v_getf X hM.C h_cm.1 inX9 0 rfl rfl 7 (by decide) kf_X9_53 (fun _ h => h) rfl dX9_writeHead_131 134 rfl ?_
        refine v_bipush X dX9_writeHead_134 136 rfl rfl ?_
        have hsz9 : s.heap.size ≤ H37.size := hM.1.1
        refine v_muV X hM (h_sb.1) (c_J4_appC l E (x + 332) v1_38 N1_39 f1_40 ml (((((n1_5 + 1) + 1) + 1) + 1) + 1) s.heap.size 46 (((((([] ++ nmT k) ++ [58]) ++ [48 + (co 1 k)]) ++ [47]) ++ [48 + (co 2 k)]) ++ [110]) (by omega) (by omega) (by omega) hp_f_42 (by omega) (by omega)) kvJ4_append_cf468 kiJ4_append_cf468 kl_X9_301 (q0 := 0) rfl rfl (As := [.int (zI 46)]) rfl rfl rfl dX9_writeHead_136 139 rfl (k' := 7) (n' := 490) rfl rfl (by intro q hq; simp only [Fr, Fs, or_false, false_or] at hq ⊢; omega) ⟨h_sb, h_sa, (by omega)⟩ (fun rv H44 lo44 hM hF hpo => ?_)
        obtain ⟨v1_45, N1_46, f1_47, rfl, hp_f_48, hp_f_49, hw_0, hw_1⟩ := hpo
        have h_sb : PR E (x + 332) [(x + 332, .inr (1, [.ref v1_45, .int (zI 0), .int (zI ml), .int (zI ((((((n1_5 + 1) + 1) + 1) + 1) + 1) + 1))]))] H44 := hw_0
        have h_sa : PR E v1_45 [(v1_45, .inl (E 102 2, N1_46, .inl (zA f1_47)))] H44 := hw_1
        replace hzl := Nat.le_trans hzl hF.1
        replace h_cm := h_cm.kept hF 1 rfl (by intro q q1 q2 q3; simp only [Fs, or_false] at q3; omega)
        replace h_co := h_co.kept hF 28 rfl (by intro q q1 q2 q3; simp only [Fs, or_false] at q3; omega)
        show V p l e (rmL 6 7 490) s m args below meth cd Q 2 H44 lo44 7 490 139 [(0, .ref x), (1, .int (zI k))] [.ref (x + 332)]
        clear hsz9
        replace hp_f_48 : v1_45 = v ∨ s.heap.size ≤ v1_45 := by omega
        clear hp_f_41
        refine v_pop X dX9_writeHead_139 140 rfl rfl ?_
        subst hQ; exact m_vret X hr hlk hM dX9_writeHead_140 rfl ⟨v1_45, N1_46, f1_47, ((((((n1_5 + 1) + 1) + 1) + 1) + 1) + 1), rfl, (by omega), (by rw [show hdT co k = (((((([] ++ nmT k) ++ [58]) ++ [48 + (co 1 k)]) ++ [47]) ++ [48 + (co 2 k)]) ++ [110]) ++ [46] by (have e1 : phT co k = 110 := by (unfold phT; first | rw [if_pos (by omega)] | rw [if_neg (by omega), if_pos (by omega)] | rw [if_neg (by omega), if_neg (by omega)])); (have e2 : clT co k = [46] := by (unfold clT; rw [if_pos (by omega)])); rw [hdT, e1, e2] <;> rfl]; exact hp_f_49), (by omega), h_sb, h_sa⟩
    · skip
      refine v_bipush X dX9_writeHead_107 109 rfl rfl ?_
      refine v_goto X dX9_writeHead_109 114 (by decide) ?_
      have hsz9 : s.heap.size ≤ H29.size := hM.1.1
      refine v_muV X hM (h_sb.1) (c_J4_appC l E (x + 332) v1_30 N1_31 f1_32 ml ((((n1_5 + 1) + 1) + 1) + 1) s.heap.size 103 ((((([] ++ nmT k) ++ [58]) ++ [48 + (co 1 k)]) ++ [47]) ++ [48 + (co 2 k)]) (by omega) (by omega) (by omega) hp_f_34 (by omega) (by omega)) kvJ4_append_cf468 kiJ4_append_cf468 kl_X9_301 (q0 := 0) rfl rfl (As := [.int (zI 103)]) rfl rfl rfl dX9_writeHead_114 117 rfl (k' := 6) (n' := 420) rfl rfl (by intro q hq; simp only [Fr, Fs, or_false, false_or] at hq ⊢; omega) ⟨h_sb, h_sa, (by omega)⟩ (fun rv H50 lo50 hM hF hpo => ?_)
      obtain ⟨v1_51, N1_52, f1_53, rfl, hp_f_54, hp_f_55, hw_0, hw_1⟩ := hpo
      have h_sb : PR E (x + 332) [(x + 332, .inr (1, [.ref v1_51, .int (zI 0), .int (zI ml), .int (zI (((((n1_5 + 1) + 1) + 1) + 1) + 1))]))] H50 := hw_0
      have h_sa : PR E v1_51 [(v1_51, .inl (E 102 2, N1_52, .inl (zA f1_53)))] H50 := hw_1
      replace hzl := Nat.le_trans hzl hF.1
      replace h_cm := h_cm.kept hF 1 rfl (by intro q q1 q2 q3; simp only [Fs, or_false] at q3; omega)
      replace h_co := h_co.kept hF 28 rfl (by intro q q1 q2 q3; simp only [Fs, or_false] at q3; omega)
      show V p l e (rmL 6 7 490) s m args below meth cd Q 2 H50 lo50 6 420 117 [(0, .ref x), (1, .int (zI k))] [.ref (x + 332)]
      clear hsz9
      replace hp_f_54 : v1_51 = v ∨ s.heap.size ≤ v1_51 := by omega
      clear hp_f_33
      refine v_pop X dX9_writeHead_117 118 rfl rfl ?_
      refine v_aload_n X dX9_writeHead_118 119 rfl 0 rfl ?_
      refine v_getf X hM.C h_cm.1 inX9 0 rfl rfl 0 (by decide) kf_X9_10 (fun _ h => h) rfl dX9_writeHead_119 122 rfl ?_
      refine v_iconst X dX9_writeHead_122 123 rfl ?_
      refine v_iload_n X dX9_writeHead_123 124 rfl 1 rfl ?_
      refine v_rdV X hM.C h_co.1 (c_X0_isIn l E (x + 1) co 2 k hO k0 k1 (by omega)) kvX0_isIn kiX0_isIn kl_X9_118 rfl rfl (As := [.int (zI 2), .int (zI k)]) rfl rfl rfl dX9_writeHead_124 127 rfl ?_
      show V p l e (rmL 6 7 490) s m args below meth cd Q 2 H50 lo50 6 420 127 [(0, .ref x), (1, .int (zI k))] [.int (zI (bz (co 3 k = 2)))]
      refine v_bif_eq X dX9_writeHead_127 130 140 rfl (by decide) (fun c_56 => ?_) (fun c_56 => ?_)
      · skip
        subst hQ; exact m_vret X hr hlk hM dX9_writeHead_140 rfl ⟨v1_51, N1_52, f1_53, (((((n1_5 + 1) + 1) + 1) + 1) + 1), rfl, (by omega), (by rw [show hdT co k = ((((([] ++ nmT k) ++ [58]) ++ [48 + (co 1 k)]) ++ [47]) ++ [48 + (co 2 k)]) ++ [103] by (have e1 : phT co k = 103 := by (unfold phT; first | rw [if_pos (by omega)] | rw [if_neg (by omega), if_pos (by omega)] | rw [if_neg (by omega), if_neg (by omega)])); (have e2 : clT co k = [] := by (unfold clT; rw [if_neg (by omega)])); rw [hdT, e1, e2, List.append_nil] <;> rfl]; exact hp_f_55), (by omega), h_sb, h_sa⟩
      · skip
        refine v_aload_n X dX9_writeHead_130 131 rfl 0 rfl ?_
        refine v_getf X hM.C h_cm.1 inX9 0 rfl rfl 7 (by decide) kf_X9_53 (fun _ h => h) rfl dX9_writeHead_131 134 rfl ?_
        refine v_bipush X dX9_writeHead_134 136 rfl rfl ?_
        have hsz9 : s.heap.size ≤ H50.size := hM.1.1
        refine v_muV X hM (h_sb.1) (c_J4_appC l E (x + 332) v1_51 N1_52 f1_53 ml (((((n1_5 + 1) + 1) + 1) + 1) + 1) s.heap.size 46 (((((([] ++ nmT k) ++ [58]) ++ [48 + (co 1 k)]) ++ [47]) ++ [48 + (co 2 k)]) ++ [103]) (by omega) (by omega) (by omega) hp_f_55 (by omega) (by omega)) kvJ4_append_cf468 kiJ4_append_cf468 kl_X9_301 (q0 := 0) rfl rfl (As := [.int (zI 46)]) rfl rfl rfl dX9_writeHead_136 139 rfl (k' := 7) (n' := 490) rfl rfl (by intro q hq; simp only [Fr, Fs, or_false, false_or] at hq ⊢; omega) ⟨h_sb, h_sa, (by omega)⟩ (fun rv H57 lo57 hM hF hpo => ?_)
        obtain ⟨v1_58, N1_59, f1_60, rfl, hp_f_61, hp_f_62, hw_0, hw_1⟩ := hpo
        have h_sb : PR E (x + 332) [(x + 332, .inr (1, [.ref v1_58, .int (zI 0), .int (zI ml), .int (zI ((((((n1_5 + 1) + 1) + 1) + 1) + 1) + 1))]))] H57 := hw_0
        have h_sa : PR E v1_58 [(v1_58, .inl (E 102 2, N1_59, .inl (zA f1_60)))] H57 := hw_1
        replace hzl := Nat.le_trans hzl hF.1
        replace h_cm := h_cm.kept hF 1 rfl (by intro q q1 q2 q3; simp only [Fs, or_false] at q3; omega)
        replace h_co := h_co.kept hF 28 rfl (by intro q q1 q2 q3; simp only [Fs, or_false] at q3; omega)
        show V p l e (rmL 6 7 490) s m args below meth cd Q 2 H57 lo57 7 490 139 [(0, .ref x), (1, .int (zI k))] [.ref (x + 332)]
        clear hsz9
        replace hp_f_61 : v1_58 = v ∨ s.heap.size ≤ v1_58 := by omega
        clear hp_f_54
        refine v_pop X dX9_writeHead_139 140 rfl rfl ?_
        subst hQ; exact m_vret X hr hlk hM dX9_writeHead_140 rfl ⟨v1_58, N1_59, f1_60, ((((((n1_5 + 1) + 1) + 1) + 1) + 1) + 1), rfl, (by omega), (by rw [show hdT co k = (((((([] ++ nmT k) ++ [58]) ++ [48 + (co 1 k)]) ++ [47]) ++ [48 + (co 2 k)]) ++ [103]) ++ [46] by (have e1 : phT co k = 103 := by (unfold phT; first | rw [if_pos (by omega)] | rw [if_neg (by omega), if_pos (by omega)] | rw [if_neg (by omega), if_neg (by omega)])); (have e2 : clT co k = [46] := by (unfold clT; rw [if_pos (by omega)])); rw [hdT, e1, e2] <;> rfl]; exact hp_f_62), (by omega), h_sb, h_sa⟩
  · skip
    refine v_aload_n X dX9_writeHead_79 80 rfl 0 rfl ?_
    refine v_getf X hM.C h_cm.1 inX9 0 rfl rfl 7 (by decide) kf_X9_53 (fun _ h => h) rfl dX9_writeHead_80 83 rfl ?_
    refine v_bipush X dX9_writeHead_83 85 rfl rfl ?_
    have hsz9 : s.heap.size ≤ H29.size := hM.1.1
    refine v_muV X hM (h_sb.1) (c_J4_appC l E (x + 332) v1_30 N1_31 f1_32 ml ((((n1_5 + 1) + 1) + 1) + 1) s.heap.size 111 ((((([] ++ nmT k) ++ [58]) ++ [48 + (co 1 k)]) ++ [47]) ++ [48 + (co 2 k)]) (by omega) (by omega) (by omega) hp_f_34 (by omega) (by omega)) kvJ4_append_cf468 kiJ4_append_cf468 kl_X9_301 (q0 := 0) rfl rfl (As := [.int (zI 111)]) rfl rfl rfl dX9_writeHead_85 88 rfl (k' := 6) (n' := 420) rfl rfl (by intro q hq; simp only [Fr, Fs, or_false, false_or] at hq ⊢; omega) ⟨h_sb, h_sa, (by omega)⟩ (fun rv H63 lo63 hM hF hpo => ?_)
    obtain ⟨v1_64, N1_65, f1_66, rfl, hp_f_67, hp_f_68, hw_0, hw_1⟩ := hpo
    have h_sb : PR E (x + 332) [(x + 332, .inr (1, [.ref v1_64, .int (zI 0), .int (zI ml), .int (zI (((((n1_5 + 1) + 1) + 1) + 1) + 1))]))] H63 := hw_0
    have h_sa : PR E v1_64 [(v1_64, .inl (E 102 2, N1_65, .inl (zA f1_66)))] H63 := hw_1
    replace hzl := Nat.le_trans hzl hF.1
    replace h_cm := h_cm.kept hF 1 rfl (by intro q q1 q2 q3; simp only [Fs, or_false] at q3; omega)
    replace h_co := h_co.kept hF 28 rfl (by intro q q1 q2 q3; simp only [Fs, or_false] at q3; omega)
    show V p l e (rmL 6 7 490) s m args below meth cd Q 2 H63 lo63 6 420 88 [(0, .ref x), (1, .int (zI k))] [.ref (x + 332)]
    clear hsz9
    replace hp_f_67 : v1_64 = v ∨ s.heap.size ≤ v1_64 := by omega
    clear hp_f_33
    refine v_pop X dX9_writeHead_88 89 rfl rfl ?_
    refine v_goto X dX9_writeHead_89 118 (by decide) ?_
    refine v_aload_n X dX9_writeHead_118 119 rfl 0 rfl ?_
    refine v_getf X hM.C h_cm.1 inX9 0 rfl rfl 0 (by decide) kf_X9_10 (fun _ h => h) rfl dX9_writeHead_119 122 rfl ?_
    refine v_iconst X dX9_writeHead_122 123 rfl ?_
    refine v_iload_n X dX9_writeHead_123 124 rfl 1 rfl ?_
    refine v_rdV X hM.C h_co.1 (c_X0_isIn l E (x + 1) co 2 k hO k0 k1 (by omega)) kvX0_isIn kiX0_isIn kl_X9_118 rfl rfl (As := [.int (zI 2), .int (zI k)]) rfl rfl rfl dX9_writeHead_124 127 rfl ?_
    show V p l e (rmL 6 7 490) s m args below meth cd Q 2 H63 lo63 6 420 127 [(0, .ref x), (1, .int (zI k))] [.int (zI (bz (co 3 k = 2)))]
    refine v_bif_eq X dX9_writeHead_127 130 140 rfl (by decide) (fun c_69 => ?_) (fun c_69 => ?_)
    · skip
      subst hQ; exact m_vret X hr hlk hM dX9_writeHead_140 rfl ⟨v1_64, N1_65, f1_66, (((((n1_5 + 1) + 1) + 1) + 1) + 1), rfl, (by omega), (by rw [show hdT co k = ((((([] ++ nmT k) ++ [58]) ++ [48 + (co 1 k)]) ++ [47]) ++ [48 + (co 2 k)]) ++ [111] by (have e1 : phT co k = 111 := by (unfold phT; first | rw [if_pos (by omega)] | rw [if_neg (by omega), if_pos (by omega)] | rw [if_neg (by omega), if_neg (by omega)])); (have e2 : clT co k = [] := by (unfold clT; rw [if_neg (by omega)])); rw [hdT, e1, e2, List.append_nil] <;> rfl]; exact hp_f_68), (by omega), h_sb, h_sa⟩
    · skip
      exfalso; omega
set_option maxHeartbeats 4000000 in
set_option maxRecDepth 20000 in
theorem c_X9_writeTestimony (l : Launch) (E : Nat → Nat → Nat) (x : Nat) (co : Nat → Int → Int) (hs : Int) (er : Int) (fa : Int) (ss : Int) (v : Nat) (N : Nat) (f : Int → Int) (ml : Int) (n : Int) (k : Int) (w : Int) (T : List Int) (z : Nat) (hO : OkC co) (k0 : 0 ≤ k) (k1 : k < 16) (w0 : 0 ≤ w) (w1 : w < 8) (n2 : n < 60) (hT : SBs f N n T) (hbz : x + 334 ≤ z) (hd_cm_sb : x + 1 ≤ x + 332 ∨ x + 332 + 1 ≤ x) (hd_cm_sa : x + 1 ≤ v ∨ v + 1 ≤ x) (hd_co_sb : x + 1 + 28 ≤ x + 332 ∨ x + 332 + 1 ≤ x + 1) (hd_co_sa : x + 1 + 28 ≤ v ∨ v + 1 ≤ x + 1) (hd_sb_sa : x + 332 + 1 ≤ v ∨ v + 1 ≤ x + 332) : Mu l yX9_writeTestimony cX9_writeTestimony 3 none 6 5 350 E [(x + 332, 1), (v, 1)] [.ref x, .int (zI k), .int (zI w)] (fun H => PR E x [(x, .inr (11, [.ref (x + 1), .ref (x + 29), .ref (x + 57), .ref (x + 85), .ref (x + 311), .ref (x + 314), .ref (x + 319), .ref (x + 332), .int (zI hs), .int (zI er), .int (zI fa), .int (zI ss)]))] H ∧ PR E (x + 1) (courtW E (x + 1) co) H ∧ PR E (x + 332) [(x + 332, .inr (1, [.ref v, .int (zI 0), .int (zI ml), .int (zI n)]))] H ∧ PR E v [(v, .inl (E 102 2, N, .inl (zA f)))] H ∧ z ≤ H.size) (fun rv H => ∃ v1 : Nat, ∃ N1 : Nat, ∃ f1 : Int → Int, rv = none ∧ (v1 = v ∨ z ≤ v1) ∧ SBs f1 N1 (n + 1 + 1 + 1 + 1 + 1) (tsT T co k w) ∧ PR E (x + 332) [(x + 332, .inr (1, [.ref v1, .int (zI 0), .int (zI ml), .int (zI (n + 1 + 1 + 1 + 1 + 1))]))] H ∧ PR E v1 [(v1, .inl (E 102 2, N1, .inl (zA f1)))] H) := by
  refine Mu.start (own := RX9) rfl (by decide +kernel) (Nat.le_of_ble_eq_true rfl) ?_
  intro p e s m below meth cd args Q hQ X hr hlk hnm hM hPr
  obtain ⟨h_cm, h_co, h_sb, h_sa, hzl⟩ := hPr
  have hz : s.heap.size = s.heap.size := rfl
  have hzl0 := hzl
  have hb0 := hO.b0
  have hbw := hO.bw
  have hbs : x + 332 < s.heap.size := (h_sb.1 0 _ rfl).lt
  have hn0 := hT.n0
  refine v_aload_n X dX9_writeTestimony_0 1 rfl 0 rfl ?_
  refine v_getf X hM.C h_cm.1 inX9 0 rfl rfl 7 (by decide) kf_X9_53 (fun _ h => h) rfl dX9_writeTestimony_1 4 rfl ?_
  refine v_bipush X dX9_writeTestimony_4 6 rfl rfl ?_
  have hsz9 : s.heap.size ≤ s.heap.size := hM.1.1
  refine v_muV X hM (h_sb.1) (c_J4_appC l E (x + 332) v N f ml n s.heap.size 32 T (by omega) (by omega) (by omega) hT (by omega) (by omega)) kvJ4_append_cf468 kiJ4_append_cf468 kl_X9_301 (q0 := 0) rfl rfl (As := [.int (zI 32)]) rfl rfl rfl dX9_writeTestimony_6 9 rfl (k' := 1) (n' := 70) rfl rfl (by intro q hq; simp only [Fr, Fs, or_false, false_or] at hq ⊢; omega) ⟨h_sb, h_sa, (by omega)⟩ (fun rv H1 lo1 hM hF hpo => ?_)
  obtain ⟨v1_2, N1_3, f1_4, rfl, hp_f_5, hp_f_6, hw_0, hw_1⟩ := hpo
  have h_sb : PR E (x + 332) [(x + 332, .inr (1, [.ref v1_2, .int (zI 0), .int (zI ml), .int (zI (n + 1))]))] H1 := hw_0
  have h_sa : PR E v1_2 [(v1_2, .inl (E 102 2, N1_3, .inl (zA f1_4)))] H1 := hw_1
  replace hzl := Nat.le_trans hzl hF.1
  replace h_cm := h_cm.kept hF 1 rfl (by intro q q1 q2 q3; simp only [Fs, or_false] at q3; omega)
  replace h_co := h_co.kept hF 28 rfl (by intro q q1 q2 q3; simp only [Fs, or_false] at q3; omega)
  show V p l e (rmL 6 5 350) s m args below meth cd Q 3 H1 lo1 1 70 9 [(0, .ref x), (1, .int (zI k)), (2, .int (zI w))] [.ref (x + 332)]
  clear hsz9
  refine v_pop X dX9_writeTestimony_9 10 rfl rfl ?_
  refine v_aload_n X dX9_writeTestimony_10 11 rfl 0 rfl ?_
  refine v_getf X hM.C h_cm.1 inX9 0 rfl rfl 7 (by decide) kf_X9_53 (fun _ h => h) rfl dX9_writeTestimony_11 14 rfl ?_
  refine v_aload_n X dX9_writeTestimony_14 15 rfl 0 rfl ?_
  refine v_getf X hM.C h_cm.1 inX9 0 rfl rfl 0 (by decide) kf_X9_10 (fun _ h => h) rfl dX9_writeTestimony_15 18 rfl ?_
  refine v_iload_n X dX9_writeTestimony_18 19 rfl 1 rfl ?_
  refine v_iload_n X dX9_writeTestimony_19 20 rfl 2 rfl ?_
  refine v_rdV X hM.C h_co.1 (c_X0_sideOf l E (x + 1) co k w k0 k1 w0 w1) kvX0_sideOf kiX0_sideOf kl_X9_151 rfl rfl (As := [.int (zI k), .int (zI w)]) rfl rfl rfl dX9_writeTestimony_20 23 rfl ?_
  show V p l e (rmL 6 5 350) s m args below meth cd Q 3 H1 lo1 1 70 23 [(0, .ref x), (1, .int (zI k)), (2, .int (zI w))] [.int (zI (co 8 (k * 8 + w))), .ref (x + 332)]
  have hb_7 := hO.b8 (k * 8 + w)
  refine v_if_le X (by omega) dX9_writeTestimony_23 26 31 rfl (by decide) (fun c_8 => ?_) (fun c_8 => ?_)
  · skip
    refine v_bipush X dX9_writeTestimony_31 33 rfl rfl ?_
    have hsz9 : s.heap.size ≤ H1.size := hM.1.1
    refine v_muV X hM (h_sb.1) (c_J4_appC l E (x + 332) v1_2 N1_3 f1_4 ml (n + 1) s.heap.size 45 (T ++ [32]) (by omega) (by omega) (by omega) hp_f_6 (by omega) (by omega)) kvJ4_append_cf468 kiJ4_append_cf468 kl_X9_301 (q0 := 0) rfl rfl (As := [.int (zI 45)]) rfl rfl rfl dX9_writeTestimony_33 36 rfl (k' := 2) (n' := 140) rfl rfl (by intro q hq; simp only [Fr, Fs, or_false, false_or] at hq ⊢; omega) ⟨h_sb, h_sa, (by omega)⟩ (fun rv H9 lo9 hM hF hpo => ?_)
    obtain ⟨v1_10, N1_11, f1_12, rfl, hp_f_13, hp_f_14, hw_0, hw_1⟩ := hpo
    have h_sb : PR E (x + 332) [(x + 332, .inr (1, [.ref v1_10, .int (zI 0), .int (zI ml), .int (zI ((n + 1) + 1))]))] H9 := hw_0
    have h_sa : PR E v1_10 [(v1_10, .inl (E 102 2, N1_11, .inl (zA f1_12)))] H9 := hw_1
    replace hzl := Nat.le_trans hzl hF.1
    replace h_cm := h_cm.kept hF 1 rfl (by intro q q1 q2 q3; simp only [Fs, or_false] at q3; omega)
    replace h_co := h_co.kept hF 28 rfl (by intro q q1 q2 q3; simp only [Fs, or_false] at q3; omega)
    show V p l e (rmL 6 5 350) s m args below meth cd Q 3 H9 lo9 2 140 36 [(0, .ref x), (1, .int (zI k)), (2, .int (zI w))] [.ref (x + 332)]
    clear hsz9
    replace hp_f_13 : v1_10 = v ∨ s.heap.size ≤ v1_10 := by omega
    clear hp_f_5
    refine v_pop X dX9_writeTestimony_36 37 rfl rfl ?_
    refine v_aload_n X dX9_writeTestimony_37 38 rfl 0 rfl ?_
    refine v_getf X hM.C h_cm.1 inX9 0 rfl rfl 7 (by decide) kf_X9_53 (fun _ h => h) rfl dX9_writeTestimony_38 41 rfl ?_
    refine v_iload_n X dX9_writeTestimony_41 42 rfl 2 rfl ?_
    have hsz9 : s.heap.size ≤ H9.size := hM.1.1
    refine v_muV X hM (h_sb.1) (c_J4_appS l E (x + 332) v1_10 N1_11 f1_12 ml ((n + 1) + 1) s.heap.size w ((T ++ [32]) ++ [45]) w0 (by omega) (by omega) hp_f_14 (by omega) (by omega)) kvJ4_append_bf812 kiJ4_append_bf812 kl_X9_305 (q0 := 0) rfl rfl (As := [.int (zI w)]) rfl rfl rfl dX9_writeTestimony_42 45 rfl (k' := 3) (n' := 210) rfl rfl (by intro q hq; simp only [Fr, Fs, or_false, false_or] at hq ⊢; omega) ⟨h_sb, h_sa, (by omega)⟩ (fun rv H15 lo15 hM hF hpo => ?_)
    obtain ⟨v1_16, N1_17, f1_18, rfl, hp_f_19, hp_f_20, hw_0, hw_1⟩ := hpo
    have h_sb : PR E (x + 332) [(x + 332, .inr (1, [.ref v1_16, .int (zI 0), .int (zI ml), .int (zI (((n + 1) + 1) + 1))]))] H15 := hw_0
    have h_sa : PR E v1_16 [(v1_16, .inl (E 102 2, N1_17, .inl (zA f1_18)))] H15 := hw_1
    replace hzl := Nat.le_trans hzl hF.1
    replace h_cm := h_cm.kept hF 1 rfl (by intro q q1 q2 q3; simp only [Fs, or_false] at q3; omega)
    replace h_co := h_co.kept hF 28 rfl (by intro q q1 q2 q3; simp only [Fs, or_false] at q3; omega)
    show V p l e (rmL 6 5 350) s m args below meth cd Q 3 H15 lo15 3 210 45 [(0, .ref x), (1, .int (zI k)), (2, .int (zI w))] [.ref (x + 332)]
    clear hsz9
    replace hp_f_19 : v1_16 = v ∨ s.heap.size ≤ v1_16 := by omega
    clear hp_f_13
    refine v_pop X dX9_writeTestimony_45 46 rfl rfl ?_
    refine v_aload_n X dX9_writeTestimony_46 47 rfl 0 rfl ?_
    refine v_getf X hM.C h_cm.1 inX9 0 rfl rfl 7 (by decide) kf_X9_53 (fun _ h => h) rfl dX9_writeTestimony_47 50 rfl ?_
    refine v_bipush X dX9_writeTestimony_50 52 rfl rfl ?_
    have hsz9 : s.heap.size ≤ H15.size := hM.1.1
    refine v_muV X hM (h_sb.1) (c_J4_appC l E (x + 332) v1_16 N1_17 f1_18 ml (((n + 1) + 1) + 1) s.heap.size 42 (((T ++ [32]) ++ [45]) ++ [48 + w]) (by omega) (by omega) (by omega) hp_f_20 (by omega) (by omega)) kvJ4_append_cf468 kiJ4_append_cf468 kl_X9_301 (q0 := 0) rfl rfl (As := [.int (zI 42)]) rfl rfl rfl dX9_writeTestimony_52 55 rfl (k' := 4) (n' := 280) rfl rfl (by intro q hq; simp only [Fr, Fs, or_false, false_or] at hq ⊢; omega) ⟨h_sb, h_sa, (by omega)⟩ (fun rv H21 lo21 hM hF hpo => ?_)
    obtain ⟨v1_22, N1_23, f1_24, rfl, hp_f_25, hp_f_26, hw_0, hw_1⟩ := hpo
    have h_sb : PR E (x + 332) [(x + 332, .inr (1, [.ref v1_22, .int (zI 0), .int (zI ml), .int (zI ((((n + 1) + 1) + 1) + 1))]))] H21 := hw_0
    have h_sa : PR E v1_22 [(v1_22, .inl (E 102 2, N1_23, .inl (zA f1_24)))] H21 := hw_1
    replace hzl := Nat.le_trans hzl hF.1
    replace h_cm := h_cm.kept hF 1 rfl (by intro q q1 q2 q3; simp only [Fs, or_false] at q3; omega)
    replace h_co := h_co.kept hF 28 rfl (by intro q q1 q2 q3; simp only [Fs, or_false] at q3; omega)
    show V p l e (rmL 6 5 350) s m args below meth cd Q 3 H21 lo21 4 280 55 [(0, .ref x), (1, .int (zI k)), (2, .int (zI w))] [.ref (x + 332)]
    clear hsz9
    replace hp_f_25 : v1_22 = v ∨ s.heap.size ≤ v1_22 := by omega
    clear hp_f_19
    refine v_pop X dX9_writeTestimony_55 56 rfl rfl ?_
    refine v_aload_n X dX9_writeTestimony_56 57 rfl 0 rfl ?_
    refine v_getf X hM.C h_cm.1 inX9 0 rfl rfl 7 (by decide) kf_X9_53 (fun _ h => h) rfl dX9_writeTestimony_57 60 rfl ?_
    refine v_aload_n X dX9_writeTestimony_60 61 rfl 0 rfl ?_
    refine v_getf X hM.C h_cm.1 inX9 0 rfl rfl 0 (by decide) kf_X9_10 (fun _ h => h) rfl dX9_writeTestimony_61 64 rfl ?_
    refine v_iload_n X dX9_writeTestimony_64 65 rfl 1 rfl ?_
    refine v_iload_n X dX9_writeTestimony_65 66 rfl 2 rfl ?_
    refine v_rdV X hM.C h_co.1 (c_X0_strengthOf l E (x + 1) co k w k0 k1 w0 w1) kvX0_strengthOf kiX0_strengthOf kl_X9_154 rfl rfl (As := [.int (zI k), .int (zI w)]) rfl rfl rfl dX9_writeTestimony_66 69 rfl ?_
    show V p l e (rmL 6 5 350) s m args below meth cd Q 3 H21 lo21 4 280 69 [(0, .ref x), (1, .int (zI k)), (2, .int (zI w))] [.int (zI (co 9 (k * 8 + w))), .ref (x + 332)]
    have hb_27 := hO.b9 (k * 8 + w)
    have hsz9 : s.heap.size ≤ H21.size := hM.1.1
    refine v_muV X hM (h_sb.1) (c_J4_appS l E (x + 332) v1_22 N1_23 f1_24 ml ((((n + 1) + 1) + 1) + 1) s.heap.size (co 9 (k * 8 + w)) ((((T ++ [32]) ++ [45]) ++ [48 + w]) ++ [42]) (by omega) (by omega) (by omega) hp_f_26 (by omega) (by omega)) kvJ4_append_bf812 kiJ4_append_bf812 kl_X9_305 (q0 := 0) rfl rfl (As := [.int (zI (co 9 (k * 8 + w)))]) rfl rfl rfl dX9_writeTestimony_69 72 rfl (k' := 5) (n' := 350) rfl rfl (by intro q hq; simp only [Fr, Fs, or_false, false_or] at hq ⊢; omega) ⟨h_sb, h_sa, (by omega)⟩ (fun rv H28 lo28 hM hF hpo => ?_)
    obtain ⟨v1_29, N1_30, f1_31, rfl, hp_f_32, hp_f_33, hw_0, hw_1⟩ := hpo
    have h_sb : PR E (x + 332) [(x + 332, .inr (1, [.ref v1_29, .int (zI 0), .int (zI ml), .int (zI (((((n + 1) + 1) + 1) + 1) + 1))]))] H28 := hw_0
    have h_sa : PR E v1_29 [(v1_29, .inl (E 102 2, N1_30, .inl (zA f1_31)))] H28 := hw_1
    replace hzl := Nat.le_trans hzl hF.1
    replace h_cm := h_cm.kept hF 1 rfl (by intro q q1 q2 q3; simp only [Fs, or_false] at q3; omega)
    replace h_co := h_co.kept hF 28 rfl (by intro q q1 q2 q3; simp only [Fs, or_false] at q3; omega)
    show V p l e (rmL 6 5 350) s m args below meth cd Q 3 H28 lo28 5 350 72 [(0, .ref x), (1, .int (zI k)), (2, .int (zI w))] [.ref (x + 332)]
    clear hsz9
    replace hp_f_32 : v1_29 = v ∨ s.heap.size ≤ v1_29 := by omega
    clear hp_f_25
    refine v_pop X dX9_writeTestimony_72 73 rfl rfl ?_
    subst hQ; exact m_vret X hr hlk hM dX9_writeTestimony_73 rfl ⟨v1_29, N1_30, f1_31, rfl, (by omega), (by rw [show tsT T co k w = ((((T ++ [32]) ++ [45]) ++ [48 + w]) ++ [42]) ++ [48 + (co 9 (k * 8 + w))] by (have e1 : sgT co k w = 45 := by (unfold sgT; rw [if_neg (by omega)])); rw [tsT, e1]]; exact hp_f_33), h_sb, h_sa⟩
  · skip
    refine v_bipush X dX9_writeTestimony_26 28 rfl rfl ?_
    refine v_goto X dX9_writeTestimony_28 33 (by decide) ?_
    have hsz9 : s.heap.size ≤ H1.size := hM.1.1
    refine v_muV X hM (h_sb.1) (c_J4_appC l E (x + 332) v1_2 N1_3 f1_4 ml (n + 1) s.heap.size 43 (T ++ [32]) (by omega) (by omega) (by omega) hp_f_6 (by omega) (by omega)) kvJ4_append_cf468 kiJ4_append_cf468 kl_X9_301 (q0 := 0) rfl rfl (As := [.int (zI 43)]) rfl rfl rfl dX9_writeTestimony_33 36 rfl (k' := 2) (n' := 140) rfl rfl (by intro q hq; simp only [Fr, Fs, or_false, false_or] at hq ⊢; omega) ⟨h_sb, h_sa, (by omega)⟩ (fun rv H34 lo34 hM hF hpo => ?_)
    obtain ⟨v1_35, N1_36, f1_37, rfl, hp_f_38, hp_f_39, hw_0, hw_1⟩ := hpo
    have h_sb : PR E (x + 332) [(x + 332, .inr (1, [.ref v1_35, .int (zI 0), .int (zI ml), .int (zI ((n + 1) + 1))]))] H34 := hw_0
    have h_sa : PR E v1_35 [(v1_35, .inl (E 102 2, N1_36, .inl (zA f1_37)))] H34 := hw_1
    replace hzl := Nat.le_trans hzl hF.1
    replace h_cm := h_cm.kept hF 1 rfl (by intro q q1 q2 q3; simp only [Fs, or_false] at q3; omega)
    replace h_co := h_co.kept hF 28 rfl (by intro q q1 q2 q3; simp only [Fs, or_false] at q3; omega)
    show V p l e (rmL 6 5 350) s m args below meth cd Q 3 H34 lo34 2 140 36 [(0, .ref x), (1, .int (zI k)), (2, .int (zI w))] [.ref (x + 332)]
    clear hsz9
    replace hp_f_38 : v1_35 = v ∨ s.heap.size ≤ v1_35 := by omega
    clear hp_f_5
    refine v_pop X dX9_writeTestimony_36 37 rfl rfl ?_
    refine v_aload_n X dX9_writeTestimony_37 38 rfl 0 rfl ?_
    refine v_getf X hM.C h_cm.1 inX9 0 rfl rfl 7 (by decide) kf_X9_53 (fun _ h => h) rfl dX9_writeTestimony_38 41 rfl ?_
    refine v_iload_n X dX9_writeTestimony_41 42 rfl 2 rfl ?_
    have hsz9 : s.heap.size ≤ H34.size := hM.1.1
    refine v_muV X hM (h_sb.1) (c_J4_appS l E (x + 332) v1_35 N1_36 f1_37 ml ((n + 1) + 1) s.heap.size w ((T ++ [32]) ++ [43]) w0 (by omega) (by omega) hp_f_39 (by omega) (by omega)) kvJ4_append_bf812 kiJ4_append_bf812 kl_X9_305 (q0 := 0) rfl rfl (As := [.int (zI w)]) rfl rfl rfl dX9_writeTestimony_42 45 rfl (k' := 3) (n' := 210) rfl rfl (by intro q hq; simp only [Fr, Fs, or_false, false_or] at hq ⊢; omega) ⟨h_sb, h_sa, (by omega)⟩ (fun rv H40 lo40 hM hF hpo => ?_)
    obtain ⟨v1_41, N1_42, f1_43, rfl, hp_f_44, hp_f_45, hw_0, hw_1⟩ := hpo
    have h_sb : PR E (x + 332) [(x + 332, .inr (1, [.ref v1_41, .int (zI 0), .int (zI ml), .int (zI (((n + 1) + 1) + 1))]))] H40 := hw_0
    have h_sa : PR E v1_41 [(v1_41, .inl (E 102 2, N1_42, .inl (zA f1_43)))] H40 := hw_1
    replace hzl := Nat.le_trans hzl hF.1
    replace h_cm := h_cm.kept hF 1 rfl (by intro q q1 q2 q3; simp only [Fs, or_false] at q3; omega)
    replace h_co := h_co.kept hF 28 rfl (by intro q q1 q2 q3; simp only [Fs, or_false] at q3; omega)
    show V p l e (rmL 6 5 350) s m args below meth cd Q 3 H40 lo40 3 210 45 [(0, .ref x), (1, .int (zI k)), (2, .int (zI w))] [.ref (x + 332)]
    clear hsz9
    replace hp_f_44 : v1_41 = v ∨ s.heap.size ≤ v1_41 := by omega
    clear hp_f_38
    refine v_pop X dX9_writeTestimony_45 46 rfl rfl ?_
    refine v_aload_n X dX9_writeTestimony_46 47 rfl 0 rfl ?_
    refine v_getf X hM.C h_cm.1 inX9 0 rfl rfl 7 (by decide) kf_X9_53 (fun _ h => h) rfl dX9_writeTestimony_47 50 rfl ?_
    refine v_bipush X dX9_writeTestimony_50 52 rfl rfl ?_
    have hsz9 : s.heap.size ≤ H40.size := hM.1.1
    refine v_muV X hM (h_sb.1) (c_J4_appC l E (x + 332) v1_41 N1_42 f1_43 ml (((n + 1) + 1) + 1) s.heap.size 42 (((T ++ [32]) ++ [43]) ++ [48 + w]) (by omega) (by omega) (by omega) hp_f_45 (by omega) (by omega)) kvJ4_append_cf468 kiJ4_append_cf468 kl_X9_301 (q0 := 0) rfl rfl (As := [.int (zI 42)]) rfl rfl rfl dX9_writeTestimony_52 55 rfl (k' := 4) (n' := 280) rfl rfl (by intro q hq; simp only [Fr, Fs, or_false, false_or] at hq ⊢; omega) ⟨h_sb, h_sa, (by omega)⟩ (fun rv H46 lo46 hM hF hpo => ?_)
    obtain ⟨v1_47, N1_48, f1_49, rfl, hp_f_50, hp_f_51, hw_0, hw_1⟩ := hpo
    have h_sb : PR E (x + 332) [(x + 332, .inr (1, [.ref v1_47, .int (zI 0), .int (zI ml), .int (zI ((((n + 1) + 1) + 1) + 1))]))] H46 := hw_0
    have h_sa : PR E v1_47 [(v1_47, .inl (E 102 2, N1_48, .inl (zA f1_49)))] H46 := hw_1
    replace hzl := Nat.le_trans hzl hF.1
    replace h_cm := h_cm.kept hF 1 rfl (by intro q q1 q2 q3; simp only [Fs, or_false] at q3; omega)
    replace h_co := h_co.kept hF 28 rfl (by intro q q1 q2 q3; simp only [Fs, or_false] at q3; omega)
    show V p l e (rmL 6 5 350) s m args below meth cd Q 3 H46 lo46 4 280 55 [(0, .ref x), (1, .int (zI k)), (2, .int (zI w))] [.ref (x + 332)]
    clear hsz9
    replace hp_f_50 : v1_47 = v ∨ s.heap.size ≤ v1_47 := by omega
    clear hp_f_44
    refine v_pop X dX9_writeTestimony_55 56 rfl rfl ?_
    refine v_aload_n X dX9_writeTestimony_56 57 rfl 0 rfl ?_
    refine v_getf X hM.C h_cm.1 inX9 0 rfl rfl 7 (by decide) kf_X9_53 (fun _ h => h) rfl dX9_writeTestimony_57 60 rfl ?_
    refine v_aload_n X dX9_writeTestimony_60 61 rfl 0 rfl ?_
    refine v_getf X hM.C h_cm.1 inX9 0 rfl rfl 0 (by decide) kf_X9_10 (fun _ h => h) rfl dX9_writeTestimony_61 64 rfl ?_
    refine v_iload_n X dX9_writeTestimony_64 65 rfl 1 rfl ?_
    refine v_iload_n X dX9_writeTestimony_65 66 rfl 2 rfl ?_
    refine v_rdV X hM.C h_co.1 (c_X0_strengthOf l E (x + 1) co k w k0 k1 w0 w1) kvX0_strengthOf kiX0_strengthOf kl_X9_154 rfl rfl (As := [.int (zI k), .int (zI w)]) rfl rfl rfl dX9_writeTestimony_66 69 rfl ?_
    show V p l e (rmL 6 5 350) s m args below meth cd Q 3 H46 lo46 4 280 69 [(0, .ref x), (1, .int (zI k)), (2, .int (zI w))] [.int (zI (co 9 (k * 8 + w))), .ref (x + 332)]
    have hb_52 := hO.b9 (k * 8 + w)
    have hsz9 : s.heap.size ≤ H46.size := hM.1.1
    refine v_muV X hM (h_sb.1) (c_J4_appS l E (x + 332) v1_47 N1_48 f1_49 ml ((((n + 1) + 1) + 1) + 1) s.heap.size (co 9 (k * 8 + w)) ((((T ++ [32]) ++ [43]) ++ [48 + w]) ++ [42]) (by omega) (by omega) (by omega) hp_f_51 (by omega) (by omega)) kvJ4_append_bf812 kiJ4_append_bf812 kl_X9_305 (q0 := 0) rfl rfl (As := [.int (zI (co 9 (k * 8 + w)))]) rfl rfl rfl dX9_writeTestimony_69 72 rfl (k' := 5) (n' := 350) rfl rfl (by intro q hq; simp only [Fr, Fs, or_false, false_or] at hq ⊢; omega) ⟨h_sb, h_sa, (by omega)⟩ (fun rv H53 lo53 hM hF hpo => ?_)
    obtain ⟨v1_54, N1_55, f1_56, rfl, hp_f_57, hp_f_58, hw_0, hw_1⟩ := hpo
    have h_sb : PR E (x + 332) [(x + 332, .inr (1, [.ref v1_54, .int (zI 0), .int (zI ml), .int (zI (((((n + 1) + 1) + 1) + 1) + 1))]))] H53 := hw_0
    have h_sa : PR E v1_54 [(v1_54, .inl (E 102 2, N1_55, .inl (zA f1_56)))] H53 := hw_1
    replace hzl := Nat.le_trans hzl hF.1
    replace h_cm := h_cm.kept hF 1 rfl (by intro q q1 q2 q3; simp only [Fs, or_false] at q3; omega)
    replace h_co := h_co.kept hF 28 rfl (by intro q q1 q2 q3; simp only [Fs, or_false] at q3; omega)
    show V p l e (rmL 6 5 350) s m args below meth cd Q 3 H53 lo53 5 350 72 [(0, .ref x), (1, .int (zI k)), (2, .int (zI w))] [.ref (x + 332)]
    clear hsz9
    replace hp_f_57 : v1_54 = v ∨ s.heap.size ≤ v1_54 := by omega
    clear hp_f_50
    refine v_pop X dX9_writeTestimony_72 73 rfl rfl ?_
    subst hQ; exact m_vret X hr hlk hM dX9_writeTestimony_73 rfl ⟨v1_54, N1_55, f1_56, rfl, (by omega), (by rw [show tsT T co k w = ((((T ++ [32]) ++ [43]) ++ [48 + w]) ++ [42]) ++ [48 + (co 9 (k * 8 + w))] by (have e1 : sgT co k w = 43 := by (unfold sgT; rw [if_pos (by omega)])); rw [tsT, e1]]; exact hp_f_58), h_sb, h_sa⟩
set_option maxHeartbeats 4000000 in
set_option maxRecDepth 20000 in
theorem c_X9_formatCase (l : Launch) (E : Nat → Nat → Nat) (x : Nat) (co : Nat → Int → Int) (hs : Int) (er : Int) (fa : Int) (ss : Int) (v : Nat) (N : Nat) (f : Int → Int) (ml : Int) (n : Int) (k : Int) (T : List Int) (z : Nat) (hO : OkC co) (gk : Rg k) (k0 : 0 ≤ k ∧ k < co 0 0) (n2 : n ≤ 60) (hT : SBs f N n T) (hbz : x + 334 ≤ z) (hd_cm_sb : x + 1 ≤ x + 332 ∨ x + 332 + 1 ≤ x) (hd_cm_sa : x + 1 ≤ v ∨ v + 1 ≤ x) (hd_co_sb : x + 1 + 28 ≤ x + 332 ∨ x + 332 + 1 ≤ x + 1) (hd_co_sa : x + 1 + 28 ≤ v ∨ v + 1 ≤ x + 1) (hd_sb_sa : x + 332 + 1 ≤ v ∨ v + 1 ≤ x + 332) : Mu l yX9_formatCase cX9_formatCase 3 (some .int) 7 37 2590 E [(x + 332, 1), (v, 1)] [.ref x, .int (zI k)] (fun H => PR E x [(x, .inr (11, [.ref (x + 1), .ref (x + 29), .ref (x + 57), .ref (x + 85), .ref (x + 311), .ref (x + 314), .ref (x + 319), .ref (x + 332), .int (zI hs), .int (zI er), .int (zI fa), .int (zI ss)]))] H ∧ PR E (x + 1) (courtW E (x + 1) co) H ∧ PR E (x + 332) [(x + 332, .inr (1, [.ref v, .int (zI 0), .int (zI ml), .int (zI n)]))] H ∧ PR E v [(v, .inl (E 102 2, N, .inl (zA f)))] H ∧ z ≤ H.size) (fun rv H => ∃ v1 : Nat, ∃ N1 : Nat, ∃ f1 : Int → Int, ∃ n1 : Int, ∃ ml1 : Int, rv = some (.int (zI n1)) ∧ (v1 = v ∨ z ≤ v1) ∧ SBs f1 N1 n1 (lnT co k (co 6 k).toNat) ∧ (0 ≤ n1 ∧ n1 ≤ 38) ∧ PR E (x + 332) [(x + 332, .inr (1, [.ref v1, .int (zI 0), .int (zI ml1), .int (zI n1)]))] H ∧ PR E v1 [(v1, .inl (E 102 2, N1, .inl (zA f1)))] H) := by
  refine Mu.start (own := RX9) rfl (by decide +kernel) (Nat.le_of_ble_eq_true rfl) ?_
  intro p e s m below meth cd args Q hQ X hr hlk hnm hM hPr
  obtain ⟨h_cm, h_co, h_sb, h_sa, hzl⟩ := hPr
  have hz : s.heap.size = s.heap.size := rfl
  have hzl0 := hzl
  have hb0 := hO.b0
  have hbw := hO.bw
  have hbs : x + 332 < s.heap.size := (h_sb.1 0 _ rfl).lt
  have hn0 := hT.n0
  have hb6 := hO.b6 k
  have hNN := hT.1
  refine v_aload_n X dX9_formatCase_0 1 rfl 0 rfl ?_
  refine v_iload_n X dX9_formatCase_1 2 rfl 1 rfl ?_
  refine v_rdV X hM.C (PW.app h_cm.1 h_co.1) (c_X9_needCase l E x co hs er fa ss k hO gk k0) kvX9_needCase kiX9_needCase kl_X9_101 rfl rfl (As := [.int (zI k)]) rfl rfl rfl dX9_formatCase_2 5 rfl ?_
  show V p l e (rmL 7 37 2590) s m args below meth cd Q 3 s.heap [] 0 0 5 [(0, .ref x), (1, .int (zI k))] []
  refine v_aload_n X dX9_formatCase_5 6 rfl 0 rfl ?_
  refine v_getf X hM.C h_cm.1 inX9 0 rfl rfl 7 (by decide) kf_X9_53 (fun _ h => h) rfl dX9_formatCase_6 9 rfl ?_
  refine v_iconst X dX9_formatCase_9 10 rfl ?_
  refine v_muV X hM (h_sb.1) (c_J4_setLength0 l E (x + 332) v N f ml n (by omega) (by omega) (by omega) (by omega) (by omega)) kvJ4_setLength_d00df kiJ4_setLength_d00df kl_X9_290 (q0 := 0) rfl rfl (As := [.int (zI 0)]) rfl rfl rfl dX9_formatCase_10 13 rfl (k' := 0) (n' := 0) rfl rfl (fsI (fun q q1 q2 => (Or.inl (fsH (by omega) (by omega))))) ⟨h_sb, h_sa⟩ (fun rv H1 lo1 hM hF hpo => ?_)
  obtain ⟨rfl, hw_0⟩ := hpo
  have h_sb : PR E (x + 332) [(x + 332, .inr (1, [.ref v, .int (zI 0), .int (zI (if 0 < n then 1 else ml)), .int (zI 0)]))] H1 := hw_0
  replace hzl := Nat.le_trans hzl hF.1
  replace h_cm := h_cm.kept hF 1 rfl (fsd (by omega))
  replace h_co := h_co.kept hF 28 rfl (fsd (by omega))
  replace h_sa := h_sa.kept hF 1 rfl (fsd (by omega))
  show V p l e (rmL 7 37 2590) s m args below meth cd Q 3 H1 lo1 0 0 13 [(0, .ref x), (1, .int (zI k))] []
  have hT0 : SBs f N 0 [] := ⟨hT.1, by omega, hT.2.2.1, LT.nil⟩
  refine v_aload_n X dX9_formatCase_13 14 rfl 0 rfl ?_
  refine v_iload_n X dX9_formatCase_14 15 rfl 1 rfl ?_
  have hsz9 : s.heap.size ≤ H1.size := hM.1.1
  refine v_muV X hM (h_cm.1) (c_X9_writeHead l E x co hs er fa ss v N f (if 0 < n then 1 else ml) k s.heap.size hO (by omega) (by omega) hT0 (by omega) hd_cm_sb hd_cm_sa hd_co_sb hd_co_sa hd_sb_sa) kvX9_writeHead kiX9_writeHead kl_X9_293 (q0 := 0) rfl rfl (As := [.int (zI k)]) rfl rfl rfl dX9_formatCase_15 18 rfl (k' := 7) (n' := 490) rfl rfl (by intro q hq; simp only [Fr, Fs, or_false, false_or] at hq ⊢; omega) ⟨h_cm, h_co, h_sb, h_sa, (by omega)⟩ (fun rv H2 lo2 hM hF hpo => ?_)
  obtain ⟨v1_3, N1_4, f1_5, n1_6, rfl, hp_f_7, hp_f_8, hp_f_9, hw_0, hw_1⟩ := hpo
  have h_sb : PR E (x + 332) [(x + 332, .inr (1, [.ref v1_3, .int (zI 0), .int (zI (if 0 < n then 1 else ml)), .int (zI n1_6)]))] H2 := hw_0
  have h_sa : PR E v1_3 [(v1_3, .inl (E 102 2, N1_4, .inl (zA f1_5)))] H2 := hw_1
  replace hzl := Nat.le_trans hzl hF.1
  replace h_cm := h_cm.kept hF 1 rfl (by intro q q1 q2 q3; simp only [Fs, or_false] at q3; omega)
  replace h_co := h_co.kept hF 28 rfl (by intro q q1 q2 q3; simp only [Fs, or_false] at q3; omega)
  show V p l e (rmL 7 37 2590) s m args below meth cd Q 3 H2 lo2 7 490 18 [(0, .ref x), (1, .int (zI k))] []
  clear hsz9
  refine v_iconst X dX9_formatCase_18 19 rfl ?_
  refine v_istore_n X dX9_formatCase_19 20 rfl rfl (by decide) (L' := [(2, .int (zI 0)), (0, .ref x), (1, .int (zI k))]) rfl ?_
  refine v_iload_n X dX9_formatCase_20 21 rfl 0 rfl ?_
  refine v_aload_n X dX9_formatCase_21 22 rfl 1 rfl ?_
  refine v_getf X hM.C h_cm.1 inX9 0 rfl rfl 0 (by decide) kf_X9_10 (fun _ h => h) rfl dX9_formatCase_22 25 rfl ?_
  refine v_getfN X hM.C h_co.1 inX0 0 rfl rfl 9 (by decide) kfn_X9_133 (fun _ h => h) rfl dX9_formatCase_25 28 rfl ?_
  refine v_iload_n X dX9_formatCase_28 29 rfl 2 rfl ?_
  refine v_rdV X hM.C (PW.part h_co.1 11 2 (wc := rowW E (x + 12) 16 (co 6)) rfl) (c_X6_get l E (x + 12) 16 (co 6) k (by omega) (by omega) (by omega)) kvX6_get kiX6_get kl_X9_109 rfl rfl (As := [.int (zI k)]) rfl rfl rfl dX9_formatCase_29 32 rfl ?_
  show V p l e (rmL 7 37 2590) s m args below meth cd Q 3 H2 lo2 7 490 32 [(2, .int (zI 0)), (0, .ref x), (1, .int (zI k))] [.int (zI (co 6 k)), .int (zI 0)]
  have hb_10 := hO.b6 k
  refine v_icmp_ge X (by omega) (by omega) dX9_formatCase_32 35 55 rfl (by decide) (fun c_11 => ?_) (fun c_11 => ?_)
  · skip
    refine v_aload_n X dX9_formatCase_55 56 rfl 1 rfl ?_
    refine v_getf X hM.C h_cm.1 inX9 0 rfl rfl 7 (by decide) kf_X9_53 (fun _ h => h) rfl dX9_formatCase_56 59 rfl ?_
    refine v_rdV X hM.C h_sb.1 (c_J4_length_8abf5 l E (x + 332) v1_3 (if 0 < n then 1 else ml) n1_6) kvJ4_length_8abf5 kiJ4_length_8abf5 kl_X9_299 rfl rfl (As := []) rfl rfl rfl dX9_formatCase_59 62 rfl ?_
    show V p l e (rmL 7 37 2590) s m args below meth cd Q 3 H2 lo2 7 490 62 [(2, .int (zI 0)), (0, .ref x), (1, .int (zI k))] [.int (zI n1_6)]
    subst hQ; exact m_iret X hr hlk hM dX9_formatCase_62 rfl ⟨v1_3, N1_4, f1_5, n1_6, (if 0 < n then 1 else ml), (sv (by omega)), (by omega), (by rw [show (co 6 k).toNat = 0 by omega]; show SBs _ _ _ (hdT co k); exact hp_f_8), (by omega), h_sb, h_sa⟩
  · skip
    refine v_aload_n X dX9_formatCase_35 36 rfl 1 rfl ?_
    refine v_iload_n X dX9_formatCase_36 37 rfl 2 rfl ?_
    refine v_aload_n X dX9_formatCase_37 38 rfl 1 rfl ?_
    refine v_getf X hM.C h_cm.1 inX9 0 rfl rfl 0 (by decide) kf_X9_10 (fun _ h => h) rfl dX9_formatCase_38 41 rfl ?_
    refine v_iload_n X dX9_formatCase_41 42 rfl 2 rfl ?_
    refine v_iload_n X dX9_formatCase_42 43 rfl 0 rfl ?_
    refine v_rdV X hM.C h_co.1 (c_X0_witnessHeardAt l E (x + 1) co k 0 (by omega) (by omega) (by omega) (by omega)) kvX0_witnessHeardAt kiX0_witnessHeardAt kl_X9_138 rfl rfl (As := [.int (zI k), .int (zI 0)]) rfl rfl rfl dX9_formatCase_43 46 rfl ?_
    show V p l e (rmL 7 37 2590) s m args below meth cd Q 3 H2 lo2 7 490 46 [(2, .int (zI 0)), (0, .ref x), (1, .int (zI k))] [.int (zI (co 7 (k * 6 + 0))), .int (zI k), .ref x]
    have hb_12 := hO.b7 (k * 6 + 0)
    have hsz9 : s.heap.size ≤ H2.size := hM.1.1
    refine v_muV X hM (h_cm.1) (c_X9_writeTestimony l E x co hs er fa ss v1_3 N1_4 f1_5 (if 0 < n then 1 else ml) n1_6 k (co 7 (k * 6 + 0)) (hdT co k) s.heap.size hO (by omega) (by omega) (by omega) (by omega) (by omega) hp_f_8 (by omega) hd_cm_sb (by omega) hd_co_sb (by omega) (by omega)) kvX9_writeTestimony kiX9_writeTestimony kl_X9_296 (q0 := 0) rfl rfl (As := [.int (zI k), .int (zI (co 7 (k * 6 + 0)))]) rfl rfl rfl dX9_formatCase_46 49 rfl (k' := 12) (n' := 840) rfl rfl (by intro q hq; simp only [Fr, Fs, or_false, false_or] at hq ⊢; omega) ⟨h_cm, h_co, h_sb, h_sa, (by omega)⟩ (fun rv H13 lo13 hM hF hpo => ?_)
    obtain ⟨v1_14, N1_15, f1_16, rfl, hp_f_17, hp_f_18, hw_0, hw_1⟩ := hpo
    have h_sb : PR E (x + 332) [(x + 332, .inr (1, [.ref v1_14, .int (zI 0), .int (zI (if 0 < n then 1 else ml)), .int (zI (n1_6 + 1 + 1 + 1 + 1 + 1))]))] H13 := hw_0
    have h_sa : PR E v1_14 [(v1_14, .inl (E 102 2, N1_15, .inl (zA f1_16)))] H13 := hw_1
    replace hzl := Nat.le_trans hzl hF.1
    replace h_cm := h_cm.kept hF 1 rfl (by intro q q1 q2 q3; simp only [Fs, or_false] at q3; omega)
    replace h_co := h_co.kept hF 28 rfl (by intro q q1 q2 q3; simp only [Fs, or_false] at q3; omega)
    show V p l e (rmL 7 37 2590) s m args below meth cd Q 3 H13 lo13 12 840 49 [(2, .int (zI 0)), (0, .ref x), (1, .int (zI k))] []
    clear hsz9
    replace hp_f_17 : v1_14 = v ∨ s.heap.size ≤ v1_14 := by omega
    clear hp_f_7
    refine v_iinc X dX9_formatCase_49 52 rfl 0 rfl (by decide) (L' := [(2, .int (zI (0 + 1))), (0, .ref x), (1, .int (zI k))]) rfl ?_
    refine v_goto X dX9_formatCase_52 20 (by decide) ?_
    refine V_L (L' := [(2, .int (zI 1)), (0, .ref x), (1, .int (zI k))]) (LC (vz (by omega)) (LC rfl (LC rfl rfl))) ?_
    refine v_iload_n X dX9_formatCase_20 21 rfl 0 rfl ?_
    refine v_aload_n X dX9_formatCase_21 22 rfl 1 rfl ?_
    refine v_getf X hM.C h_cm.1 inX9 0 rfl rfl 0 (by decide) kf_X9_10 (fun _ h => h) rfl dX9_formatCase_22 25 rfl ?_
    refine v_getfN X hM.C h_co.1 inX0 0 rfl rfl 9 (by decide) kfn_X9_133 (fun _ h => h) rfl dX9_formatCase_25 28 rfl ?_
    refine v_iload_n X dX9_formatCase_28 29 rfl 2 rfl ?_
    refine v_rdV X hM.C (PW.part h_co.1 11 2 (wc := rowW E (x + 12) 16 (co 6)) rfl) (c_X6_get l E (x + 12) 16 (co 6) k (by omega) (by omega) (by omega)) kvX6_get kiX6_get kl_X9_109 rfl rfl (As := [.int (zI k)]) rfl rfl rfl dX9_formatCase_29 32 rfl ?_
    show V p l e (rmL 7 37 2590) s m args below meth cd Q 3 H13 lo13 12 840 32 [(2, .int (zI 1)), (0, .ref x), (1, .int (zI k))] [.int (zI (co 6 k)), .int (zI 1)]
    refine v_icmp_ge X (by omega) (by omega) dX9_formatCase_32 35 55 rfl (by decide) (fun c_19 => ?_) (fun c_19 => ?_)
    · skip
      refine v_aload_n X dX9_formatCase_55 56 rfl 1 rfl ?_
      refine v_getf X hM.C h_cm.1 inX9 0 rfl rfl 7 (by decide) kf_X9_53 (fun _ h => h) rfl dX9_formatCase_56 59 rfl ?_
      refine v_rdV X hM.C h_sb.1 (c_J4_length_8abf5 l E (x + 332) v1_14 (if 0 < n then 1 else ml) (n1_6 + 1 + 1 + 1 + 1 + 1)) kvJ4_length_8abf5 kiJ4_length_8abf5 kl_X9_299 rfl rfl (As := []) rfl rfl rfl dX9_formatCase_59 62 rfl ?_
      show V p l e (rmL 7 37 2590) s m args below meth cd Q 3 H13 lo13 12 840 62 [(2, .int (zI 1)), (0, .ref x), (1, .int (zI k))] [.int (zI (n1_6 + 1 + 1 + 1 + 1 + 1))]
      subst hQ; exact m_iret X hr hlk hM dX9_formatCase_62 rfl ⟨v1_14, N1_15, f1_16, (n1_6 + 1 + 1 + 1 + 1 + 1), (if 0 < n then 1 else ml), (sv (by omega)), (by omega), (by rw [show (co 6 k).toNat = 1 by omega]; show SBs _ _ _ (tsT (hdT co k) co k (co 7 (k * 6 + 0))); exact hp_f_18), (by omega), h_sb, h_sa⟩
    · skip
      refine v_aload_n X dX9_formatCase_35 36 rfl 1 rfl ?_
      refine v_iload_n X dX9_formatCase_36 37 rfl 2 rfl ?_
      refine v_aload_n X dX9_formatCase_37 38 rfl 1 rfl ?_
      refine v_getf X hM.C h_cm.1 inX9 0 rfl rfl 0 (by decide) kf_X9_10 (fun _ h => h) rfl dX9_formatCase_38 41 rfl ?_
      refine v_iload_n X dX9_formatCase_41 42 rfl 2 rfl ?_
      refine v_iload_n X dX9_formatCase_42 43 rfl 0 rfl ?_
      refine v_rdV X hM.C h_co.1 (c_X0_witnessHeardAt l E (x + 1) co k 1 (by omega) (by omega) (by omega) (by omega)) kvX0_witnessHeardAt kiX0_witnessHeardAt kl_X9_138 rfl rfl (As := [.int (zI k), .int (zI 1)]) rfl rfl rfl dX9_formatCase_43 46 rfl ?_
      show V p l e (rmL 7 37 2590) s m args below meth cd Q 3 H13 lo13 12 840 46 [(2, .int (zI 1)), (0, .ref x), (1, .int (zI k))] [.int (zI (co 7 (k * 6 + 1))), .int (zI k), .ref x]
      have hb_20 := hO.b7 (k * 6 + 1)
      have hsz9 : s.heap.size ≤ H13.size := hM.1.1
      refine v_muV X hM (h_cm.1) (c_X9_writeTestimony l E x co hs er fa ss v1_14 N1_15 f1_16 (if 0 < n then 1 else ml) (n1_6 + 1 + 1 + 1 + 1 + 1) k (co 7 (k * 6 + 1)) (tsT (hdT co k) co k (co 7 (k * 6 + 0))) s.heap.size hO (by omega) (by omega) (by omega) (by omega) (by omega) hp_f_18 (by omega) hd_cm_sb (by omega) hd_co_sb (by omega) (by omega)) kvX9_writeTestimony kiX9_writeTestimony kl_X9_296 (q0 := 0) rfl rfl (As := [.int (zI k), .int (zI (co 7 (k * 6 + 1)))]) rfl rfl rfl dX9_formatCase_46 49 rfl (k' := 17) (n' := 1190) rfl rfl (by intro q hq; simp only [Fr, Fs, or_false, false_or] at hq ⊢; omega) ⟨h_cm, h_co, h_sb, h_sa, (by omega)⟩ (fun rv H21 lo21 hM hF hpo => ?_)
      obtain ⟨v1_22, N1_23, f1_24, rfl, hp_f_25, hp_f_26, hw_0, hw_1⟩ := hpo
      have h_sb : PR E (x + 332) [(x + 332, .inr (1, [.ref v1_22, .int (zI 0), .int (zI (if 0 < n then 1 else ml)), .int (zI ((n1_6 + 1 + 1 + 1 + 1 + 1) + 1 + 1 + 1 + 1 + 1))]))] H21 := hw_0
      have h_sa : PR E v1_22 [(v1_22, .inl (E 102 2, N1_23, .inl (zA f1_24)))] H21 := hw_1
      replace hzl := Nat.le_trans hzl hF.1
      replace h_cm := h_cm.kept hF 1 rfl (by intro q q1 q2 q3; simp only [Fs, or_false] at q3; omega)
      replace h_co := h_co.kept hF 28 rfl (by intro q q1 q2 q3; simp only [Fs, or_false] at q3; omega)
      show V p l e (rmL 7 37 2590) s m args below meth cd Q 3 H21 lo21 17 1190 49 [(2, .int (zI 1)), (0, .ref x), (1, .int (zI k))] []
      clear hsz9
      replace hp_f_25 : v1_22 = v ∨ s.heap.size ≤ v1_22 := by omega
      clear hp_f_17
      refine v_iinc X dX9_formatCase_49 52 rfl 0 rfl (by decide) (L' := [(2, .int (zI (1 + 1))), (0, .ref x), (1, .int (zI k))]) rfl ?_
      refine v_goto X dX9_formatCase_52 20 (by decide) ?_
      refine V_L (L' := [(2, .int (zI 2)), (0, .ref x), (1, .int (zI k))]) (LC (vz (by omega)) (LC rfl (LC rfl rfl))) ?_
      refine v_iload_n X dX9_formatCase_20 21 rfl 0 rfl ?_
      refine v_aload_n X dX9_formatCase_21 22 rfl 1 rfl ?_
      refine v_getf X hM.C h_cm.1 inX9 0 rfl rfl 0 (by decide) kf_X9_10 (fun _ h => h) rfl dX9_formatCase_22 25 rfl ?_
      refine v_getfN X hM.C h_co.1 inX0 0 rfl rfl 9 (by decide) kfn_X9_133 (fun _ h => h) rfl dX9_formatCase_25 28 rfl ?_
      refine v_iload_n X dX9_formatCase_28 29 rfl 2 rfl ?_
      refine v_rdV X hM.C (PW.part h_co.1 11 2 (wc := rowW E (x + 12) 16 (co 6)) rfl) (c_X6_get l E (x + 12) 16 (co 6) k (by omega) (by omega) (by omega)) kvX6_get kiX6_get kl_X9_109 rfl rfl (As := [.int (zI k)]) rfl rfl rfl dX9_formatCase_29 32 rfl ?_
      show V p l e (rmL 7 37 2590) s m args below meth cd Q 3 H21 lo21 17 1190 32 [(2, .int (zI 2)), (0, .ref x), (1, .int (zI k))] [.int (zI (co 6 k)), .int (zI 2)]
      refine v_icmp_ge X (by omega) (by omega) dX9_formatCase_32 35 55 rfl (by decide) (fun c_27 => ?_) (fun c_27 => ?_)
      · skip
        refine v_aload_n X dX9_formatCase_55 56 rfl 1 rfl ?_
        refine v_getf X hM.C h_cm.1 inX9 0 rfl rfl 7 (by decide) kf_X9_53 (fun _ h => h) rfl dX9_formatCase_56 59 rfl ?_
        refine v_rdV X hM.C h_sb.1 (c_J4_length_8abf5 l E (x + 332) v1_22 (if 0 < n then 1 else ml) ((n1_6 + 1 + 1 + 1 + 1 + 1) + 1 + 1 + 1 + 1 + 1)) kvJ4_length_8abf5 kiJ4_length_8abf5 kl_X9_299 rfl rfl (As := []) rfl rfl rfl dX9_formatCase_59 62 rfl ?_
        show V p l e (rmL 7 37 2590) s m args below meth cd Q 3 H21 lo21 17 1190 62 [(2, .int (zI 2)), (0, .ref x), (1, .int (zI k))] [.int (zI ((n1_6 + 1 + 1 + 1 + 1 + 1) + 1 + 1 + 1 + 1 + 1))]
        subst hQ; exact m_iret X hr hlk hM dX9_formatCase_62 rfl ⟨v1_22, N1_23, f1_24, ((n1_6 + 1 + 1 + 1 + 1 + 1) + 1 + 1 + 1 + 1 + 1), (if 0 < n then 1 else ml), (sv (by omega)), (by omega), (by rw [show (co 6 k).toNat = 2 by omega]; show SBs _ _ _ (tsT (tsT (hdT co k) co k (co 7 (k * 6 + 0))) co k (co 7 (k * 6 + 1))); exact hp_f_26), (by omega), h_sb, h_sa⟩
      · skip
        refine v_aload_n X dX9_formatCase_35 36 rfl 1 rfl ?_
        refine v_iload_n X dX9_formatCase_36 37 rfl 2 rfl ?_
        refine v_aload_n X dX9_formatCase_37 38 rfl 1 rfl ?_
        refine v_getf X hM.C h_cm.1 inX9 0 rfl rfl 0 (by decide) kf_X9_10 (fun _ h => h) rfl dX9_formatCase_38 41 rfl ?_
        refine v_iload_n X dX9_formatCase_41 42 rfl 2 rfl ?_
        refine v_iload_n X dX9_formatCase_42 43 rfl 0 rfl ?_
        refine v_rdV X hM.C h_co.1 (c_X0_witnessHeardAt l E (x + 1) co k 2 (by omega) (by omega) (by omega) (by omega)) kvX0_witnessHeardAt kiX0_witnessHeardAt kl_X9_138 rfl rfl (As := [.int (zI k), .int (zI 2)]) rfl rfl rfl dX9_formatCase_43 46 rfl ?_
        show V p l e (rmL 7 37 2590) s m args below meth cd Q 3 H21 lo21 17 1190 46 [(2, .int (zI 2)), (0, .ref x), (1, .int (zI k))] [.int (zI (co 7 (k * 6 + 2))), .int (zI k), .ref x]
        have hb_28 := hO.b7 (k * 6 + 2)
        have hsz9 : s.heap.size ≤ H21.size := hM.1.1
        refine v_muV X hM (h_cm.1) (c_X9_writeTestimony l E x co hs er fa ss v1_22 N1_23 f1_24 (if 0 < n then 1 else ml) ((n1_6 + 1 + 1 + 1 + 1 + 1) + 1 + 1 + 1 + 1 + 1) k (co 7 (k * 6 + 2)) (tsT (tsT (hdT co k) co k (co 7 (k * 6 + 0))) co k (co 7 (k * 6 + 1))) s.heap.size hO (by omega) (by omega) (by omega) (by omega) (by omega) hp_f_26 (by omega) hd_cm_sb (by omega) hd_co_sb (by omega) (by omega)) kvX9_writeTestimony kiX9_writeTestimony kl_X9_296 (q0 := 0) rfl rfl (As := [.int (zI k), .int (zI (co 7 (k * 6 + 2)))]) rfl rfl rfl dX9_formatCase_46 49 rfl (k' := 22) (n' := 1540) rfl rfl (by intro q hq; simp only [Fr, Fs, or_false, false_or] at hq ⊢; omega) ⟨h_cm, h_co, h_sb, h_sa, (by omega)⟩ (fun rv H29 lo29 hM hF hpo => ?_)
        obtain ⟨v1_30, N1_31, f1_32, rfl, hp_f_33, hp_f_34, hw_0, hw_1⟩ := hpo
        have h_sb : PR E (x + 332) [(x + 332, .inr (1, [.ref v1_30, .int (zI 0), .int (zI (if 0 < n then 1 else ml)), .int (zI (((n1_6 + 1 + 1 + 1 + 1 + 1) + 1 + 1 + 1 + 1 + 1) + 1 + 1 + 1 + 1 + 1))]))] H29 := hw_0
        have h_sa : PR E v1_30 [(v1_30, .inl (E 102 2, N1_31, .inl (zA f1_32)))] H29 := hw_1
        replace hzl := Nat.le_trans hzl hF.1
        replace h_cm := h_cm.kept hF 1 rfl (by intro q q1 q2 q3; simp only [Fs, or_false] at q3; omega)
        replace h_co := h_co.kept hF 28 rfl (by intro q q1 q2 q3; simp only [Fs, or_false] at q3; omega)
        show V p l e (rmL 7 37 2590) s m args below meth cd Q 3 H29 lo29 22 1540 49 [(2, .int (zI 2)), (0, .ref x), (1, .int (zI k))] []
        clear hsz9
        replace hp_f_33 : v1_30 = v ∨ s.heap.size ≤ v1_30 := by omega
        clear hp_f_25
        refine v_iinc X dX9_formatCase_49 52 rfl 0 rfl (by decide) (L' := [(2, .int (zI (2 + 1))), (0, .ref x), (1, .int (zI k))]) rfl ?_
        refine v_goto X dX9_formatCase_52 20 (by decide) ?_
        refine V_L (L' := [(2, .int (zI 3)), (0, .ref x), (1, .int (zI k))]) (LC (vz (by omega)) (LC rfl (LC rfl rfl))) ?_
        refine v_iload_n X dX9_formatCase_20 21 rfl 0 rfl ?_
        refine v_aload_n X dX9_formatCase_21 22 rfl 1 rfl ?_
        refine v_getf X hM.C h_cm.1 inX9 0 rfl rfl 0 (by decide) kf_X9_10 (fun _ h => h) rfl dX9_formatCase_22 25 rfl ?_
        refine v_getfN X hM.C h_co.1 inX0 0 rfl rfl 9 (by decide) kfn_X9_133 (fun _ h => h) rfl dX9_formatCase_25 28 rfl ?_
        refine v_iload_n X dX9_formatCase_28 29 rfl 2 rfl ?_
        refine v_rdV X hM.C (PW.part h_co.1 11 2 (wc := rowW E (x + 12) 16 (co 6)) rfl) (c_X6_get l E (x + 12) 16 (co 6) k (by omega) (by omega) (by omega)) kvX6_get kiX6_get kl_X9_109 rfl rfl (As := [.int (zI k)]) rfl rfl rfl dX9_formatCase_29 32 rfl ?_
        show V p l e (rmL 7 37 2590) s m args below meth cd Q 3 H29 lo29 22 1540 32 [(2, .int (zI 3)), (0, .ref x), (1, .int (zI k))] [.int (zI (co 6 k)), .int (zI 3)]
        refine v_icmp_ge X (by omega) (by omega) dX9_formatCase_32 35 55 rfl (by decide) (fun c_35 => ?_) (fun c_35 => ?_)
        · skip
          refine v_aload_n X dX9_formatCase_55 56 rfl 1 rfl ?_
          refine v_getf X hM.C h_cm.1 inX9 0 rfl rfl 7 (by decide) kf_X9_53 (fun _ h => h) rfl dX9_formatCase_56 59 rfl ?_
          refine v_rdV X hM.C h_sb.1 (c_J4_length_8abf5 l E (x + 332) v1_30 (if 0 < n then 1 else ml) (((n1_6 + 1 + 1 + 1 + 1 + 1) + 1 + 1 + 1 + 1 + 1) + 1 + 1 + 1 + 1 + 1)) kvJ4_length_8abf5 kiJ4_length_8abf5 kl_X9_299 rfl rfl (As := []) rfl rfl rfl dX9_formatCase_59 62 rfl ?_
          show V p l e (rmL 7 37 2590) s m args below meth cd Q 3 H29 lo29 22 1540 62 [(2, .int (zI 3)), (0, .ref x), (1, .int (zI k))] [.int (zI (((n1_6 + 1 + 1 + 1 + 1 + 1) + 1 + 1 + 1 + 1 + 1) + 1 + 1 + 1 + 1 + 1))]
          subst hQ; exact m_iret X hr hlk hM dX9_formatCase_62 rfl ⟨v1_30, N1_31, f1_32, (((n1_6 + 1 + 1 + 1 + 1 + 1) + 1 + 1 + 1 + 1 + 1) + 1 + 1 + 1 + 1 + 1), (if 0 < n then 1 else ml), (sv (by omega)), (by omega), (by rw [show (co 6 k).toNat = 3 by omega]; show SBs _ _ _ (tsT (tsT (tsT (hdT co k) co k (co 7 (k * 6 + 0))) co k (co 7 (k * 6 + 1))) co k (co 7 (k * 6 + 2))); exact hp_f_34), (by omega), h_sb, h_sa⟩
        · skip
          refine v_aload_n X dX9_formatCase_35 36 rfl 1 rfl ?_
          refine v_iload_n X dX9_formatCase_36 37 rfl 2 rfl ?_
          refine v_aload_n X dX9_formatCase_37 38 rfl 1 rfl ?_
          refine v_getf X hM.C h_cm.1 inX9 0 rfl rfl 0 (by decide) kf_X9_10 (fun _ h => h) rfl dX9_formatCase_38 41 rfl ?_
          refine v_iload_n X dX9_formatCase_41 42 rfl 2 rfl ?_
          refine v_iload_n X dX9_formatCase_42 43 rfl 0 rfl ?_
          refine v_rdV X hM.C h_co.1 (c_X0_witnessHeardAt l E (x + 1) co k 3 (by omega) (by omega) (by omega) (by omega)) kvX0_witnessHeardAt kiX0_witnessHeardAt kl_X9_138 rfl rfl (As := [.int (zI k), .int (zI 3)]) rfl rfl rfl dX9_formatCase_43 46 rfl ?_
          show V p l e (rmL 7 37 2590) s m args below meth cd Q 3 H29 lo29 22 1540 46 [(2, .int (zI 3)), (0, .ref x), (1, .int (zI k))] [.int (zI (co 7 (k * 6 + 3))), .int (zI k), .ref x]
          have hb_36 := hO.b7 (k * 6 + 3)
          have hsz9 : s.heap.size ≤ H29.size := hM.1.1
          refine v_muV X hM (h_cm.1) (c_X9_writeTestimony l E x co hs er fa ss v1_30 N1_31 f1_32 (if 0 < n then 1 else ml) (((n1_6 + 1 + 1 + 1 + 1 + 1) + 1 + 1 + 1 + 1 + 1) + 1 + 1 + 1 + 1 + 1) k (co 7 (k * 6 + 3)) (tsT (tsT (tsT (hdT co k) co k (co 7 (k * 6 + 0))) co k (co 7 (k * 6 + 1))) co k (co 7 (k * 6 + 2))) s.heap.size hO (by omega) (by omega) (by omega) (by omega) (by omega) hp_f_34 (by omega) hd_cm_sb (by omega) hd_co_sb (by omega) (by omega)) kvX9_writeTestimony kiX9_writeTestimony kl_X9_296 (q0 := 0) rfl rfl (As := [.int (zI k), .int (zI (co 7 (k * 6 + 3)))]) rfl rfl rfl dX9_formatCase_46 49 rfl (k' := 27) (n' := 1890) rfl rfl (by intro q hq; simp only [Fr, Fs, or_false, false_or] at hq ⊢; omega) ⟨h_cm, h_co, h_sb, h_sa, (by omega)⟩ (fun rv H37 lo37 hM hF hpo => ?_)
          obtain ⟨v1_38, N1_39, f1_40, rfl, hp_f_41, hp_f_42, hw_0, hw_1⟩ := hpo
          have h_sb : PR E (x + 332) [(x + 332, .inr (1, [.ref v1_38, .int (zI 0), .int (zI (if 0 < n then 1 else ml)), .int (zI ((((n1_6 + 1 + 1 + 1 + 1 + 1) + 1 + 1 + 1 + 1 + 1) + 1 + 1 + 1 + 1 + 1) + 1 + 1 + 1 + 1 + 1))]))] H37 := hw_0
          have h_sa : PR E v1_38 [(v1_38, .inl (E 102 2, N1_39, .inl (zA f1_40)))] H37 := hw_1
          replace hzl := Nat.le_trans hzl hF.1
          replace h_cm := h_cm.kept hF 1 rfl (by intro q q1 q2 q3; simp only [Fs, or_false] at q3; omega)
          replace h_co := h_co.kept hF 28 rfl (by intro q q1 q2 q3; simp only [Fs, or_false] at q3; omega)
          show V p l e (rmL 7 37 2590) s m args below meth cd Q 3 H37 lo37 27 1890 49 [(2, .int (zI 3)), (0, .ref x), (1, .int (zI k))] []
          clear hsz9
          replace hp_f_41 : v1_38 = v ∨ s.heap.size ≤ v1_38 := by omega
          clear hp_f_33
          refine v_iinc X dX9_formatCase_49 52 rfl 0 rfl (by decide) (L' := [(2, .int (zI (3 + 1))), (0, .ref x), (1, .int (zI k))]) rfl ?_
          refine v_goto X dX9_formatCase_52 20 (by decide) ?_
          refine V_L (L' := [(2, .int (zI 4)), (0, .ref x), (1, .int (zI k))]) (LC (vz (by omega)) (LC rfl (LC rfl rfl))) ?_
          refine v_iload_n X dX9_formatCase_20 21 rfl 0 rfl ?_
          refine v_aload_n X dX9_formatCase_21 22 rfl 1 rfl ?_
          refine v_getf X hM.C h_cm.1 inX9 0 rfl rfl 0 (by decide) kf_X9_10 (fun _ h => h) rfl dX9_formatCase_22 25 rfl ?_
          refine v_getfN X hM.C h_co.1 inX0 0 rfl rfl 9 (by decide) kfn_X9_133 (fun _ h => h) rfl dX9_formatCase_25 28 rfl ?_
          refine v_iload_n X dX9_formatCase_28 29 rfl 2 rfl ?_
          refine v_rdV X hM.C (PW.part h_co.1 11 2 (wc := rowW E (x + 12) 16 (co 6)) rfl) (c_X6_get l E (x + 12) 16 (co 6) k (by omega) (by omega) (by omega)) kvX6_get kiX6_get kl_X9_109 rfl rfl (As := [.int (zI k)]) rfl rfl rfl dX9_formatCase_29 32 rfl ?_
          show V p l e (rmL 7 37 2590) s m args below meth cd Q 3 H37 lo37 27 1890 32 [(2, .int (zI 4)), (0, .ref x), (1, .int (zI k))] [.int (zI (co 6 k)), .int (zI 4)]
          refine v_icmp_ge X (by omega) (by omega) dX9_formatCase_32 35 55 rfl (by decide) (fun c_43 => ?_) (fun c_43 => ?_)
          · skip
            refine v_aload_n X dX9_formatCase_55 56 rfl 1 rfl ?_
            refine v_getf X hM.C h_cm.1 inX9 0 rfl rfl 7 (by decide) kf_X9_53 (fun _ h => h) rfl dX9_formatCase_56 59 rfl ?_
            refine v_rdV X hM.C h_sb.1 (c_J4_length_8abf5 l E (x + 332) v1_38 (if 0 < n then 1 else ml) ((((n1_6 + 1 + 1 + 1 + 1 + 1) + 1 + 1 + 1 + 1 + 1) + 1 + 1 + 1 + 1 + 1) + 1 + 1 + 1 + 1 + 1)) kvJ4_length_8abf5 kiJ4_length_8abf5 kl_X9_299 rfl rfl (As := []) rfl rfl rfl dX9_formatCase_59 62 rfl ?_
            show V p l e (rmL 7 37 2590) s m args below meth cd Q 3 H37 lo37 27 1890 62 [(2, .int (zI 4)), (0, .ref x), (1, .int (zI k))] [.int (zI ((((n1_6 + 1 + 1 + 1 + 1 + 1) + 1 + 1 + 1 + 1 + 1) + 1 + 1 + 1 + 1 + 1) + 1 + 1 + 1 + 1 + 1))]
            subst hQ; exact m_iret X hr hlk hM dX9_formatCase_62 rfl ⟨v1_38, N1_39, f1_40, ((((n1_6 + 1 + 1 + 1 + 1 + 1) + 1 + 1 + 1 + 1 + 1) + 1 + 1 + 1 + 1 + 1) + 1 + 1 + 1 + 1 + 1), (if 0 < n then 1 else ml), (sv (by omega)), (by omega), (by rw [show (co 6 k).toNat = 4 by omega]; show SBs _ _ _ (tsT (tsT (tsT (tsT (hdT co k) co k (co 7 (k * 6 + 0))) co k (co 7 (k * 6 + 1))) co k (co 7 (k * 6 + 2))) co k (co 7 (k * 6 + 3))); exact hp_f_42), (by omega), h_sb, h_sa⟩
          · skip
            refine v_aload_n X dX9_formatCase_35 36 rfl 1 rfl ?_
            refine v_iload_n X dX9_formatCase_36 37 rfl 2 rfl ?_
            refine v_aload_n X dX9_formatCase_37 38 rfl 1 rfl ?_
            refine v_getf X hM.C h_cm.1 inX9 0 rfl rfl 0 (by decide) kf_X9_10 (fun _ h => h) rfl dX9_formatCase_38 41 rfl ?_
            refine v_iload_n X dX9_formatCase_41 42 rfl 2 rfl ?_
            refine v_iload_n X dX9_formatCase_42 43 rfl 0 rfl ?_
            refine v_rdV X hM.C h_co.1 (c_X0_witnessHeardAt l E (x + 1) co k 4 (by omega) (by omega) (by omega) (by omega)) kvX0_witnessHeardAt kiX0_witnessHeardAt kl_X9_138 rfl rfl (As := [.int (zI k), .int (zI 4)]) rfl rfl rfl dX9_formatCase_43 46 rfl ?_
            show V p l e (rmL 7 37 2590) s m args below meth cd Q 3 H37 lo37 27 1890 46 [(2, .int (zI 4)), (0, .ref x), (1, .int (zI k))] [.int (zI (co 7 (k * 6 + 4))), .int (zI k), .ref x]
            have hb_44 := hO.b7 (k * 6 + 4)
            have hsz9 : s.heap.size ≤ H37.size := hM.1.1
            refine v_muV X hM (h_cm.1) (c_X9_writeTestimony l E x co hs er fa ss v1_38 N1_39 f1_40 (if 0 < n then 1 else ml) ((((n1_6 + 1 + 1 + 1 + 1 + 1) + 1 + 1 + 1 + 1 + 1) + 1 + 1 + 1 + 1 + 1) + 1 + 1 + 1 + 1 + 1) k (co 7 (k * 6 + 4)) (tsT (tsT (tsT (tsT (hdT co k) co k (co 7 (k * 6 + 0))) co k (co 7 (k * 6 + 1))) co k (co 7 (k * 6 + 2))) co k (co 7 (k * 6 + 3))) s.heap.size hO (by omega) (by omega) (by omega) (by omega) (by omega) hp_f_42 (by omega) hd_cm_sb (by omega) hd_co_sb (by omega) (by omega)) kvX9_writeTestimony kiX9_writeTestimony kl_X9_296 (q0 := 0) rfl rfl (As := [.int (zI k), .int (zI (co 7 (k * 6 + 4)))]) rfl rfl rfl dX9_formatCase_46 49 rfl (k' := 32) (n' := 2240) rfl rfl (by intro q hq; simp only [Fr, Fs, or_false, false_or] at hq ⊢; omega) ⟨h_cm, h_co, h_sb, h_sa, (by omega)⟩ (fun rv H45 lo45 hM hF hpo => ?_)
            obtain ⟨v1_46, N1_47, f1_48, rfl, hp_f_49, hp_f_50, hw_0, hw_1⟩ := hpo
            have h_sb : PR E (x + 332) [(x + 332, .inr (1, [.ref v1_46, .int (zI 0), .int (zI (if 0 < n then 1 else ml)), .int (zI (((((n1_6 + 1 + 1 + 1 + 1 + 1) + 1 + 1 + 1 + 1 + 1) + 1 + 1 + 1 + 1 + 1) + 1 + 1 + 1 + 1 + 1) + 1 + 1 + 1 + 1 + 1))]))] H45 := hw_0
            have h_sa : PR E v1_46 [(v1_46, .inl (E 102 2, N1_47, .inl (zA f1_48)))] H45 := hw_1
            replace hzl := Nat.le_trans hzl hF.1
            replace h_cm := h_cm.kept hF 1 rfl (by intro q q1 q2 q3; simp only [Fs, or_false] at q3; omega)
            replace h_co := h_co.kept hF 28 rfl (by intro q q1 q2 q3; simp only [Fs, or_false] at q3; omega)
            show V p l e (rmL 7 37 2590) s m args below meth cd Q 3 H45 lo45 32 2240 49 [(2, .int (zI 4)), (0, .ref x), (1, .int (zI k))] []
            clear hsz9
            replace hp_f_49 : v1_46 = v ∨ s.heap.size ≤ v1_46 := by omega
            clear hp_f_41
            refine v_iinc X dX9_formatCase_49 52 rfl 0 rfl (by decide) (L' := [(2, .int (zI (4 + 1))), (0, .ref x), (1, .int (zI k))]) rfl ?_
            refine v_goto X dX9_formatCase_52 20 (by decide) ?_
            refine V_L (L' := [(2, .int (zI 5)), (0, .ref x), (1, .int (zI k))]) (LC (vz (by omega)) (LC rfl (LC rfl rfl))) ?_
            refine v_iload_n X dX9_formatCase_20 21 rfl 0 rfl ?_
            refine v_aload_n X dX9_formatCase_21 22 rfl 1 rfl ?_
            refine v_getf X hM.C h_cm.1 inX9 0 rfl rfl 0 (by decide) kf_X9_10 (fun _ h => h) rfl dX9_formatCase_22 25 rfl ?_
            refine v_getfN X hM.C h_co.1 inX0 0 rfl rfl 9 (by decide) kfn_X9_133 (fun _ h => h) rfl dX9_formatCase_25 28 rfl ?_
            refine v_iload_n X dX9_formatCase_28 29 rfl 2 rfl ?_
            refine v_rdV X hM.C (PW.part h_co.1 11 2 (wc := rowW E (x + 12) 16 (co 6)) rfl) (c_X6_get l E (x + 12) 16 (co 6) k (by omega) (by omega) (by omega)) kvX6_get kiX6_get kl_X9_109 rfl rfl (As := [.int (zI k)]) rfl rfl rfl dX9_formatCase_29 32 rfl ?_
            show V p l e (rmL 7 37 2590) s m args below meth cd Q 3 H45 lo45 32 2240 32 [(2, .int (zI 5)), (0, .ref x), (1, .int (zI k))] [.int (zI (co 6 k)), .int (zI 5)]
            refine v_icmp_ge X (by omega) (by omega) dX9_formatCase_32 35 55 rfl (by decide) (fun c_51 => ?_) (fun c_51 => ?_)
            · skip
              refine v_aload_n X dX9_formatCase_55 56 rfl 1 rfl ?_
              refine v_getf X hM.C h_cm.1 inX9 0 rfl rfl 7 (by decide) kf_X9_53 (fun _ h => h) rfl dX9_formatCase_56 59 rfl ?_
              refine v_rdV X hM.C h_sb.1 (c_J4_length_8abf5 l E (x + 332) v1_46 (if 0 < n then 1 else ml) (((((n1_6 + 1 + 1 + 1 + 1 + 1) + 1 + 1 + 1 + 1 + 1) + 1 + 1 + 1 + 1 + 1) + 1 + 1 + 1 + 1 + 1) + 1 + 1 + 1 + 1 + 1)) kvJ4_length_8abf5 kiJ4_length_8abf5 kl_X9_299 rfl rfl (As := []) rfl rfl rfl dX9_formatCase_59 62 rfl ?_
              show V p l e (rmL 7 37 2590) s m args below meth cd Q 3 H45 lo45 32 2240 62 [(2, .int (zI 5)), (0, .ref x), (1, .int (zI k))] [.int (zI (((((n1_6 + 1 + 1 + 1 + 1 + 1) + 1 + 1 + 1 + 1 + 1) + 1 + 1 + 1 + 1 + 1) + 1 + 1 + 1 + 1 + 1) + 1 + 1 + 1 + 1 + 1))]
              subst hQ; exact m_iret X hr hlk hM dX9_formatCase_62 rfl ⟨v1_46, N1_47, f1_48, (((((n1_6 + 1 + 1 + 1 + 1 + 1) + 1 + 1 + 1 + 1 + 1) + 1 + 1 + 1 + 1 + 1) + 1 + 1 + 1 + 1 + 1) + 1 + 1 + 1 + 1 + 1), (if 0 < n then 1 else ml), (sv (by omega)), (by omega), (by rw [show (co 6 k).toNat = 5 by omega]; show SBs _ _ _ (tsT (tsT (tsT (tsT (tsT (hdT co k) co k (co 7 (k * 6 + 0))) co k (co 7 (k * 6 + 1))) co k (co 7 (k * 6 + 2))) co k (co 7 (k * 6 + 3))) co k (co 7 (k * 6 + 4))); exact hp_f_50), (by omega), h_sb, h_sa⟩
            · skip
              refine v_aload_n X dX9_formatCase_35 36 rfl 1 rfl ?_
              refine v_iload_n X dX9_formatCase_36 37 rfl 2 rfl ?_
              refine v_aload_n X dX9_formatCase_37 38 rfl 1 rfl ?_
              refine v_getf X hM.C h_cm.1 inX9 0 rfl rfl 0 (by decide) kf_X9_10 (fun _ h => h) rfl dX9_formatCase_38 41 rfl ?_
              refine v_iload_n X dX9_formatCase_41 42 rfl 2 rfl ?_
              refine v_iload_n X dX9_formatCase_42 43 rfl 0 rfl ?_
              refine v_rdV X hM.C h_co.1 (c_X0_witnessHeardAt l E (x + 1) co k 5 (by omega) (by omega) (by omega) (by omega)) kvX0_witnessHeardAt kiX0_witnessHeardAt kl_X9_138 rfl rfl (As := [.int (zI k), .int (zI 5)]) rfl rfl rfl dX9_formatCase_43 46 rfl ?_
              show V p l e (rmL 7 37 2590) s m args below meth cd Q 3 H45 lo45 32 2240 46 [(2, .int (zI 5)), (0, .ref x), (1, .int (zI k))] [.int (zI (co 7 (k * 6 + 5))), .int (zI k), .ref x]
              have hb_52 := hO.b7 (k * 6 + 5)
              have hsz9 : s.heap.size ≤ H45.size := hM.1.1
              refine v_muV X hM (h_cm.1) (c_X9_writeTestimony l E x co hs er fa ss v1_46 N1_47 f1_48 (if 0 < n then 1 else ml) (((((n1_6 + 1 + 1 + 1 + 1 + 1) + 1 + 1 + 1 + 1 + 1) + 1 + 1 + 1 + 1 + 1) + 1 + 1 + 1 + 1 + 1) + 1 + 1 + 1 + 1 + 1) k (co 7 (k * 6 + 5)) (tsT (tsT (tsT (tsT (tsT (hdT co k) co k (co 7 (k * 6 + 0))) co k (co 7 (k * 6 + 1))) co k (co 7 (k * 6 + 2))) co k (co 7 (k * 6 + 3))) co k (co 7 (k * 6 + 4))) s.heap.size hO (by omega) (by omega) (by omega) (by omega) (by omega) hp_f_50 (by omega) hd_cm_sb (by omega) hd_co_sb (by omega) (by omega)) kvX9_writeTestimony kiX9_writeTestimony kl_X9_296 (q0 := 0) rfl rfl (As := [.int (zI k), .int (zI (co 7 (k * 6 + 5)))]) rfl rfl rfl dX9_formatCase_46 49 rfl (k' := 37) (n' := 2590) rfl rfl (by intro q hq; simp only [Fr, Fs, or_false, false_or] at hq ⊢; omega) ⟨h_cm, h_co, h_sb, h_sa, (by omega)⟩ (fun rv H53 lo53 hM hF hpo => ?_)
              obtain ⟨v1_54, N1_55, f1_56, rfl, hp_f_57, hp_f_58, hw_0, hw_1⟩ := hpo
              have h_sb : PR E (x + 332) [(x + 332, .inr (1, [.ref v1_54, .int (zI 0), .int (zI (if 0 < n then 1 else ml)), .int (zI ((((((n1_6 + 1 + 1 + 1 + 1 + 1) + 1 + 1 + 1 + 1 + 1) + 1 + 1 + 1 + 1 + 1) + 1 + 1 + 1 + 1 + 1) + 1 + 1 + 1 + 1 + 1) + 1 + 1 + 1 + 1 + 1))]))] H53 := hw_0
              have h_sa : PR E v1_54 [(v1_54, .inl (E 102 2, N1_55, .inl (zA f1_56)))] H53 := hw_1
              replace hzl := Nat.le_trans hzl hF.1
              replace h_cm := h_cm.kept hF 1 rfl (by intro q q1 q2 q3; simp only [Fs, or_false] at q3; omega)
              replace h_co := h_co.kept hF 28 rfl (by intro q q1 q2 q3; simp only [Fs, or_false] at q3; omega)
              show V p l e (rmL 7 37 2590) s m args below meth cd Q 3 H53 lo53 37 2590 49 [(2, .int (zI 5)), (0, .ref x), (1, .int (zI k))] []
              clear hsz9
              replace hp_f_57 : v1_54 = v ∨ s.heap.size ≤ v1_54 := by omega
              clear hp_f_49
              refine v_iinc X dX9_formatCase_49 52 rfl 0 rfl (by decide) (L' := [(2, .int (zI (5 + 1))), (0, .ref x), (1, .int (zI k))]) rfl ?_
              refine v_goto X dX9_formatCase_52 20 (by decide) ?_
              refine V_L (L' := [(2, .int (zI 6)), (0, .ref x), (1, .int (zI k))]) (LC (vz (by omega)) (LC rfl (LC rfl rfl))) ?_
              refine v_iload_n X dX9_formatCase_20 21 rfl 0 rfl ?_
              refine v_aload_n X dX9_formatCase_21 22 rfl 1 rfl ?_
              refine v_getf X hM.C h_cm.1 inX9 0 rfl rfl 0 (by decide) kf_X9_10 (fun _ h => h) rfl dX9_formatCase_22 25 rfl ?_
              refine v_getfN X hM.C h_co.1 inX0 0 rfl rfl 9 (by decide) kfn_X9_133 (fun _ h => h) rfl dX9_formatCase_25 28 rfl ?_
              refine v_iload_n X dX9_formatCase_28 29 rfl 2 rfl ?_
              refine v_rdV X hM.C (PW.part h_co.1 11 2 (wc := rowW E (x + 12) 16 (co 6)) rfl) (c_X6_get l E (x + 12) 16 (co 6) k (by omega) (by omega) (by omega)) kvX6_get kiX6_get kl_X9_109 rfl rfl (As := [.int (zI k)]) rfl rfl rfl dX9_formatCase_29 32 rfl ?_
              show V p l e (rmL 7 37 2590) s m args below meth cd Q 3 H53 lo53 37 2590 32 [(2, .int (zI 6)), (0, .ref x), (1, .int (zI k))] [.int (zI (co 6 k)), .int (zI 6)]
              refine v_icmp_ge X (by omega) (by omega) dX9_formatCase_32 35 55 rfl (by decide) (fun c_59 => ?_) (fun c_59 => ?_)
              · skip
                refine v_aload_n X dX9_formatCase_55 56 rfl 1 rfl ?_
                refine v_getf X hM.C h_cm.1 inX9 0 rfl rfl 7 (by decide) kf_X9_53 (fun _ h => h) rfl dX9_formatCase_56 59 rfl ?_
                refine v_rdV X hM.C h_sb.1 (c_J4_length_8abf5 l E (x + 332) v1_54 (if 0 < n then 1 else ml) ((((((n1_6 + 1 + 1 + 1 + 1 + 1) + 1 + 1 + 1 + 1 + 1) + 1 + 1 + 1 + 1 + 1) + 1 + 1 + 1 + 1 + 1) + 1 + 1 + 1 + 1 + 1) + 1 + 1 + 1 + 1 + 1)) kvJ4_length_8abf5 kiJ4_length_8abf5 kl_X9_299 rfl rfl (As := []) rfl rfl rfl dX9_formatCase_59 62 rfl ?_
                show V p l e (rmL 7 37 2590) s m args below meth cd Q 3 H53 lo53 37 2590 62 [(2, .int (zI 6)), (0, .ref x), (1, .int (zI k))] [.int (zI ((((((n1_6 + 1 + 1 + 1 + 1 + 1) + 1 + 1 + 1 + 1 + 1) + 1 + 1 + 1 + 1 + 1) + 1 + 1 + 1 + 1 + 1) + 1 + 1 + 1 + 1 + 1) + 1 + 1 + 1 + 1 + 1))]
                subst hQ; exact m_iret X hr hlk hM dX9_formatCase_62 rfl ⟨v1_54, N1_55, f1_56, ((((((n1_6 + 1 + 1 + 1 + 1 + 1) + 1 + 1 + 1 + 1 + 1) + 1 + 1 + 1 + 1 + 1) + 1 + 1 + 1 + 1 + 1) + 1 + 1 + 1 + 1 + 1) + 1 + 1 + 1 + 1 + 1), (if 0 < n then 1 else ml), (sv (by omega)), (by omega), (by rw [show (co 6 k).toNat = 6 by omega]; show SBs _ _ _ (tsT (tsT (tsT (tsT (tsT (tsT (hdT co k) co k (co 7 (k * 6 + 0))) co k (co 7 (k * 6 + 1))) co k (co 7 (k * 6 + 2))) co k (co 7 (k * 6 + 3))) co k (co 7 (k * 6 + 4))) co k (co 7 (k * 6 + 5))); exact hp_f_58), (by omega), h_sb, h_sa⟩
              · skip
                exfalso; omega
set_option maxHeartbeats 4000000 in
set_option maxRecDepth 20000 in
theorem c_X9_formatWitness (l : Launch) (E : Nat → Nat → Nat) (x : Nat) (co : Nat → Int → Int) (hs : Int) (er : Int) (fa : Int) (ss : Int) (v : Nat) (N : Nat) (f : Int → Int) (ml : Int) (n : Int) (w : Int) (T : List Int) (z : Nat) (hO : OkC co) (gw : Rg w) (k0 : 0 ≤ w ∧ w < co 0 1) (n2 : n ≤ 60) (hT : SBs f N n T) (hbz : x + 334 ≤ z) (hd_cm_sb : x + 1 ≤ x + 332 ∨ x + 332 + 1 ≤ x) (hd_cm_sa : x + 1 ≤ v ∨ v + 1 ≤ x) (hd_co_sb : x + 1 + 28 ≤ x + 332 ∨ x + 332 + 1 ≤ x + 1) (hd_co_sa : x + 1 + 28 ≤ v ∨ v + 1 ≤ x + 1) (hd_sb_sa : x + 332 + 1 ≤ v ∨ v + 1 ≤ x + 332) : Mu l yX9_formatWitness cX9_formatWitness 2 (some .int) 6 4 280 E [(x + 332, 1), (v, 1)] [.ref x, .int (zI w)] (fun H => PR E x [(x, .inr (11, [.ref (x + 1), .ref (x + 29), .ref (x + 57), .ref (x + 85), .ref (x + 311), .ref (x + 314), .ref (x + 319), .ref (x + 332), .int (zI hs), .int (zI er), .int (zI fa), .int (zI ss)]))] H ∧ PR E (x + 1) (courtW E (x + 1) co) H ∧ PR E (x + 332) [(x + 332, .inr (1, [.ref v, .int (zI 0), .int (zI ml), .int (zI n)]))] H ∧ PR E v [(v, .inl (E 102 2, N, .inl (zA f)))] H ∧ z ≤ H.size) (fun rv H => ∃ v1 : Nat, ∃ N1 : Nat, ∃ f1 : Int → Int, ∃ n1 : Int, ∃ ml1 : Int, rv = some (.int (zI n1)) ∧ (v1 = v ∨ z ≤ v1) ∧ SBs f1 N1 n1 (wtT co w) ∧ (0 ≤ n1 ∧ n1 ≤ 38) ∧ PR E (x + 332) [(x + 332, .inr (1, [.ref v1, .int (zI 0), .int (zI ml1), .int (zI n1)]))] H ∧ PR E v1 [(v1, .inl (E 102 2, N1, .inl (zA f1)))] H) := by
  refine Mu.start (own := RX9) rfl (by decide +kernel) (Nat.le_of_ble_eq_true rfl) ?_
  intro p e s m below meth cd args Q hQ X hr hlk hnm hM hPr
  obtain ⟨h_cm, h_co, h_sb, h_sa, hzl⟩ := hPr
  have hz : s.heap.size = s.heap.size := rfl
  have hzl0 := hzl
  have hb0 := hO.b0
  have hbw := hO.bw
  have hbs : x + 332 < s.heap.size := (h_sb.1 0 _ rfl).lt
  have hn0 := hT.n0
  have hNN := hT.1
  have hb11 := hO.b11 w
  refine v_aload_n X dX9_formatWitness_0 1 rfl 0 rfl ?_
  refine v_iload_n X dX9_formatWitness_1 2 rfl 1 rfl ?_
  refine v_rdV X hM.C (PW.app h_cm.1 h_co.1) (c_X9_needWitness l E x co hs er fa ss w hO gw k0) kvX9_needWitness kiX9_needWitness kl_X9_141 rfl rfl (As := [.int (zI w)]) rfl rfl rfl dX9_formatWitness_2 5 rfl ?_
  show V p l e (rmL 6 4 280) s m args below meth cd Q 2 s.heap [] 0 0 5 [(0, .ref x), (1, .int (zI w))] []
  refine v_aload_n X dX9_formatWitness_5 6 rfl 0 rfl ?_
  refine v_getf X hM.C h_cm.1 inX9 0 rfl rfl 7 (by decide) kf_X9_53 (fun _ h => h) rfl dX9_formatWitness_6 9 rfl ?_
  refine v_iconst X dX9_formatWitness_9 10 rfl ?_
  refine v_muV X hM (h_sb.1) (c_J4_setLength0 l E (x + 332) v N f ml n (by omega) (by omega) (by omega) (by omega) (by omega)) kvJ4_setLength_d00df kiJ4_setLength_d00df kl_X9_290 (q0 := 0) rfl rfl (As := [.int (zI 0)]) rfl rfl rfl dX9_formatWitness_10 13 rfl (k' := 0) (n' := 0) rfl rfl (fsI (fun q q1 q2 => (Or.inl (fsH (by omega) (by omega))))) ⟨h_sb, h_sa⟩ (fun rv H1 lo1 hM hF hpo => ?_)
  obtain ⟨rfl, hw_0⟩ := hpo
  have h_sb : PR E (x + 332) [(x + 332, .inr (1, [.ref v, .int (zI 0), .int (zI (if 0 < n then 1 else ml)), .int (zI 0)]))] H1 := hw_0
  replace hzl := Nat.le_trans hzl hF.1
  replace h_cm := h_cm.kept hF 1 rfl (fsd (by omega))
  replace h_co := h_co.kept hF 28 rfl (fsd (by omega))
  replace h_sa := h_sa.kept hF 1 rfl (fsd (by omega))
  show V p l e (rmL 6 4 280) s m args below meth cd Q 2 H1 lo1 0 0 13 [(0, .ref x), (1, .int (zI w))] []
  have hT0 : SBs f N 0 [] := ⟨hT.1, by omega, hT.2.2.1, LT.nil⟩
  refine v_aload_n X dX9_formatWitness_13 14 rfl 0 rfl ?_
  refine v_getf X hM.C h_cm.1 inX9 0 rfl rfl 7 (by decide) kf_X9_53 (fun _ h => h) rfl dX9_formatWitness_14 17 rfl ?_
  refine v_bipush X dX9_formatWitness_17 19 rfl rfl ?_
  have hsz9 : s.heap.size ≤ H1.size := hM.1.1
  refine v_muV X hM (h_sb.1) (c_J4_appC l E (x + 332) v N f (if 0 < n then 1 else ml) 0 s.heap.size 119 [] (by omega) (by omega) (by omega) hT0 (by omega) (by omega)) kvJ4_append_cf468 kiJ4_append_cf468 kl_X9_301 (q0 := 0) rfl rfl (As := [.int (zI 119)]) rfl rfl rfl dX9_formatWitness_19 22 rfl (k' := 1) (n' := 70) rfl rfl (by intro q hq; simp only [Fr, Fs, or_false, false_or] at hq ⊢; omega) ⟨h_sb, h_sa, (by omega)⟩ (fun rv H2 lo2 hM hF hpo => ?_)
  obtain ⟨v1_3, N1_4, f1_5, rfl, hp_f_6, hp_f_7, hw_0, hw_1⟩ := hpo
  have h_sb : PR E (x + 332) [(x + 332, .inr (1, [.ref v1_3, .int (zI 0), .int (zI (if 0 < n then 1 else ml)), .int (zI (0 + 1))]))] H2 := hw_0
  have h_sa : PR E v1_3 [(v1_3, .inl (E 102 2, N1_4, .inl (zA f1_5)))] H2 := hw_1
  replace hzl := Nat.le_trans hzl hF.1
  replace h_cm := h_cm.kept hF 1 rfl (by intro q q1 q2 q3; simp only [Fs, or_false] at q3; omega)
  replace h_co := h_co.kept hF 28 rfl (by intro q q1 q2 q3; simp only [Fs, or_false] at q3; omega)
  show V p l e (rmL 6 4 280) s m args below meth cd Q 2 H2 lo2 1 70 22 [(0, .ref x), (1, .int (zI w))] [.ref (x + 332)]
  clear hsz9
  refine v_pop X dX9_formatWitness_22 23 rfl rfl ?_
  refine v_aload_n X dX9_formatWitness_23 24 rfl 0 rfl ?_
  refine v_getf X hM.C h_cm.1 inX9 0 rfl rfl 7 (by decide) kf_X9_53 (fun _ h => h) rfl dX9_formatWitness_24 27 rfl ?_
  refine v_iload_n X dX9_formatWitness_27 28 rfl 1 rfl ?_
  have hsz9 : s.heap.size ≤ H2.size := hM.1.1
  refine v_muV X hM (h_sb.1) (c_J4_appS l E (x + 332) v1_3 N1_4 f1_5 (if 0 < n then 1 else ml) (0 + 1) s.heap.size w ([] ++ [119]) (by omega) (by omega) (by omega) hp_f_7 (by omega) (by omega)) kvJ4_append_bf812 kiJ4_append_bf812 kl_X9_305 (q0 := 0) rfl rfl (As := [.int (zI w)]) rfl rfl rfl dX9_formatWitness_28 31 rfl (k' := 2) (n' := 140) rfl rfl (by intro q hq; simp only [Fr, Fs, or_false, false_or] at hq ⊢; omega) ⟨h_sb, h_sa, (by omega)⟩ (fun rv H8 lo8 hM hF hpo => ?_)
  obtain ⟨v1_9, N1_10, f1_11, rfl, hp_f_12, hp_f_13, hw_0, hw_1⟩ := hpo
  have h_sb : PR E (x + 332) [(x + 332, .inr (1, [.ref v1_9, .int (zI 0), .int (zI (if 0 < n then 1 else ml)), .int (zI ((0 + 1) + 1))]))] H8 := hw_0
  have h_sa : PR E v1_9 [(v1_9, .inl (E 102 2, N1_10, .inl (zA f1_11)))] H8 := hw_1
  replace hzl := Nat.le_trans hzl hF.1
  replace h_cm := h_cm.kept hF 1 rfl (by intro q q1 q2 q3; simp only [Fs, or_false] at q3; omega)
  replace h_co := h_co.kept hF 28 rfl (by intro q q1 q2 q3; simp only [Fs, or_false] at q3; omega)
  show V p l e (rmL 6 4 280) s m args below meth cd Q 2 H8 lo8 2 140 31 [(0, .ref x), (1, .int (zI w))] [.ref (x + 332)]
  clear hsz9
  replace hp_f_12 : v1_9 = v ∨ s.heap.size ≤ v1_9 := by omega
  clear hp_f_6
  refine v_pop X dX9_formatWitness_31 32 rfl rfl ?_
  refine v_aload_n X dX9_formatWitness_32 33 rfl 0 rfl ?_
  refine v_getf X hM.C h_cm.1 inX9 0 rfl rfl 7 (by decide) kf_X9_53 (fun _ h => h) rfl dX9_formatWitness_33 36 rfl ?_
  refine v_bipush X dX9_formatWitness_36 38 rfl rfl ?_
  have hsz9 : s.heap.size ≤ H8.size := hM.1.1
  refine v_muV X hM (h_sb.1) (c_J4_appC l E (x + 332) v1_9 N1_10 f1_11 (if 0 < n then 1 else ml) ((0 + 1) + 1) s.heap.size 61 (([] ++ [119]) ++ [48 + w]) (by omega) (by omega) (by omega) hp_f_13 (by omega) (by omega)) kvJ4_append_cf468 kiJ4_append_cf468 kl_X9_301 (q0 := 0) rfl rfl (As := [.int (zI 61)]) rfl rfl rfl dX9_formatWitness_38 41 rfl (k' := 3) (n' := 210) rfl rfl (by intro q hq; simp only [Fr, Fs, or_false, false_or] at hq ⊢; omega) ⟨h_sb, h_sa, (by omega)⟩ (fun rv H14 lo14 hM hF hpo => ?_)
  obtain ⟨v1_15, N1_16, f1_17, rfl, hp_f_18, hp_f_19, hw_0, hw_1⟩ := hpo
  have h_sb : PR E (x + 332) [(x + 332, .inr (1, [.ref v1_15, .int (zI 0), .int (zI (if 0 < n then 1 else ml)), .int (zI (((0 + 1) + 1) + 1))]))] H14 := hw_0
  have h_sa : PR E v1_15 [(v1_15, .inl (E 102 2, N1_16, .inl (zA f1_17)))] H14 := hw_1
  replace hzl := Nat.le_trans hzl hF.1
  replace h_cm := h_cm.kept hF 1 rfl (by intro q q1 q2 q3; simp only [Fs, or_false] at q3; omega)
  replace h_co := h_co.kept hF 28 rfl (by intro q q1 q2 q3; simp only [Fs, or_false] at q3; omega)
  show V p l e (rmL 6 4 280) s m args below meth cd Q 2 H14 lo14 3 210 41 [(0, .ref x), (1, .int (zI w))] [.ref (x + 332)]
  clear hsz9
  replace hp_f_18 : v1_15 = v ∨ s.heap.size ≤ v1_15 := by omega
  clear hp_f_12
  refine v_pop X dX9_formatWitness_41 42 rfl rfl ?_
  refine v_aload_n X dX9_formatWitness_42 43 rfl 0 rfl ?_
  refine v_getf X hM.C h_cm.1 inX9 0 rfl rfl 7 (by decide) kf_X9_53 (fun _ h => h) rfl dX9_formatWitness_43 46 rfl ?_
  refine v_aload_n X dX9_formatWitness_46 47 rfl 0 rfl ?_
  refine v_getf X hM.C h_cm.1 inX9 0 rfl rfl 0 (by decide) kf_X9_10 (fun _ h => h) rfl dX9_formatWitness_47 50 rfl ?_
  refine v_getfN X hM.C h_co.1 inX0 0 rfl rfl 14 (by decide) kfn_X9_163 (fun _ h => h) rfl dX9_formatWitness_50 53 rfl ?_
  refine v_iload_n X dX9_formatWitness_53 54 rfl 1 rfl ?_
  refine v_rdV X hM.C (PW.part h_co.1 21 2 (wc := rowW E (x + 22) 8 (co 11)) rfl) (c_X6_get l E (x + 22) 8 (co 11) w (by omega) (by omega) (by omega)) kvX6_get kiX6_get kl_X9_109 rfl rfl (As := [.int (zI w)]) rfl rfl rfl dX9_formatWitness_54 57 rfl ?_
  show V p l e (rmL 6 4 280) s m args below meth cd Q 2 H14 lo14 3 210 57 [(0, .ref x), (1, .int (zI w))] [.int (zI (co 11 w)), .ref (x + 332)]
  have hb_20 := hO.b11 w
  have hsz9 : s.heap.size ≤ H14.size := hM.1.1
  refine v_muV X hM (h_sb.1) (c_J4_appS l E (x + 332) v1_15 N1_16 f1_17 (if 0 < n then 1 else ml) (((0 + 1) + 1) + 1) s.heap.size (co 11 w) ((([] ++ [119]) ++ [48 + w]) ++ [61]) (by omega) (by omega) (by omega) hp_f_19 (by omega) (by omega)) kvJ4_append_bf812 kiJ4_append_bf812 kl_X9_305 (q0 := 0) rfl rfl (As := [.int (zI (co 11 w))]) rfl rfl rfl dX9_formatWitness_57 60 rfl (k' := 4) (n' := 280) rfl rfl (by intro q hq; simp only [Fr, Fs, or_false, false_or] at hq ⊢; omega) ⟨h_sb, h_sa, (by omega)⟩ (fun rv H21 lo21 hM hF hpo => ?_)
  obtain ⟨v1_22, N1_23, f1_24, rfl, hp_f_25, hp_f_26, hw_0, hw_1⟩ := hpo
  have h_sb : PR E (x + 332) [(x + 332, .inr (1, [.ref v1_22, .int (zI 0), .int (zI (if 0 < n then 1 else ml)), .int (zI ((((0 + 1) + 1) + 1) + 1))]))] H21 := hw_0
  have h_sa : PR E v1_22 [(v1_22, .inl (E 102 2, N1_23, .inl (zA f1_24)))] H21 := hw_1
  replace hzl := Nat.le_trans hzl hF.1
  replace h_cm := h_cm.kept hF 1 rfl (by intro q q1 q2 q3; simp only [Fs, or_false] at q3; omega)
  replace h_co := h_co.kept hF 28 rfl (by intro q q1 q2 q3; simp only [Fs, or_false] at q3; omega)
  show V p l e (rmL 6 4 280) s m args below meth cd Q 2 H21 lo21 4 280 60 [(0, .ref x), (1, .int (zI w))] [.ref (x + 332)]
  clear hsz9
  replace hp_f_25 : v1_22 = v ∨ s.heap.size ≤ v1_22 := by omega
  clear hp_f_18
  refine v_pop X dX9_formatWitness_60 61 rfl rfl ?_
  refine v_aload_n X dX9_formatWitness_61 62 rfl 0 rfl ?_
  refine v_getf X hM.C h_cm.1 inX9 0 rfl rfl 7 (by decide) kf_X9_53 (fun _ h => h) rfl dX9_formatWitness_62 65 rfl ?_
  refine v_rdV X hM.C h_sb.1 (c_J4_length_8abf5 l E (x + 332) v1_22 (if 0 < n then 1 else ml) ((((0 + 1) + 1) + 1) + 1)) kvJ4_length_8abf5 kiJ4_length_8abf5 kl_X9_299 rfl rfl (As := []) rfl rfl rfl dX9_formatWitness_65 68 rfl ?_
  show V p l e (rmL 6 4 280) s m args below meth cd Q 2 H21 lo21 4 280 68 [(0, .ref x), (1, .int (zI w))] [.int (zI ((((0 + 1) + 1) + 1) + 1))]
  subst hQ; exact m_iret X hr hlk hM dX9_formatWitness_68 rfl ⟨v1_22, N1_23, f1_24, ((((0 + 1) + 1) + 1) + 1), (if 0 < n then 1 else ml), (sv (by omega)), (by omega), (by show SBs _ _ _ (((([] ++ [119]) ++ [48 + w]) ++ [61]) ++ [48 + (co 11 w)]); exact hp_f_26), (by omega), h_sb, h_sa⟩
set_option maxHeartbeats 4000000 in
set_option maxRecDepth 20000 in
theorem x_X9_formatCase_0 (l : Launch) (hl : l.stackTraces = false) (E : Nat → Nat → Nat) (x : Nat) (co : Nat → Int → Int) (hs : Int) (er : Int) (fa : Int) (ss : Int) (k : Int) (hO : OkC co) (gk : Rg k) (nk : ¬ (0 ≤ k ∧ k < co 0 0)) : Tx l yX9_formatCase cX9_formatCase 3 (some .int) 7 1 6 E [] [.ref x, .int (zI k)] (fun H => PR E x [(x, .inr (11, [.ref (x + 1), .ref (x + 29), .ref (x + 57), .ref (x + 85), .ref (x + 311), .ref (x + 314), .ref (x + 319), .ref (x + 332), .int (zI hs), .int (zI er), .int (zI fa), .int (zI ss)]))] H ∧ PR E (x + 1) (courtW E (x + 1) co) H) "java/lang/IndexOutOfBoundsException" (fun H => True) := by
  refine Tx.start (own := RX9) rfl (by decide +kernel) (Nat.le_of_ble_eq_true rfl) ?_
  intro p e s m below meth cd args Q hQ X tb hlk hM hPr
  obtain ⟨h_cm, h_co⟩ := hPr
  have hb0 := hO.b0
  have hbw := hO.bw
  refine v_aload_n X dX9_formatCase_0 1 rfl 0 rfl ?_
  refine v_iload_n X dX9_formatCase_1 2 rfl 1 rfl ?_
  subst hQ; exact v_txV X tb hlk hM (h_cm.1) (x_X9_needCase_0 l hl E x co hs er fa ss k hO gk nk) kvX9_needCase kiX9_needCase kl_X9_101 (q0 := 0) rfl rfl (As := [.int (zI k)]) rfl rfl rfl rfl dX9_formatCase_2 (fun q hq => hq.elim) ⟨h_cm, h_co⟩ (fun H1 hF hpo => trivial)
set_option maxHeartbeats 4000000 in
set_option maxRecDepth 20000 in
theorem x_X9_formatWitness_0 (l : Launch) (hl : l.stackTraces = false) (E : Nat → Nat → Nat) (x : Nat) (co : Nat → Int → Int) (hs : Int) (er : Int) (fa : Int) (ss : Int) (w : Int) (hO : OkC co) (gw : Rg w) (nk : ¬ (0 ≤ w ∧ w < co 0 1)) : Tx l yX9_formatWitness cX9_formatWitness 2 (some .int) 7 1 6 E [] [.ref x, .int (zI w)] (fun H => PR E x [(x, .inr (11, [.ref (x + 1), .ref (x + 29), .ref (x + 57), .ref (x + 85), .ref (x + 311), .ref (x + 314), .ref (x + 319), .ref (x + 332), .int (zI hs), .int (zI er), .int (zI fa), .int (zI ss)]))] H ∧ PR E (x + 1) (courtW E (x + 1) co) H) "java/lang/IndexOutOfBoundsException" (fun H => True) := by
  refine Tx.start (own := RX9) rfl (by decide +kernel) (Nat.le_of_ble_eq_true rfl) ?_
  intro p e s m below meth cd args Q hQ X tb hlk hM hPr
  obtain ⟨h_cm, h_co⟩ := hPr
  have hb0 := hO.b0
  have hbw := hO.bw
  refine v_aload_n X dX9_formatWitness_0 1 rfl 0 rfl ?_
  refine v_iload_n X dX9_formatWitness_1 2 rfl 1 rfl ?_
  subst hQ; exact v_txV X tb hlk hM (h_cm.1) (x_X9_needWitness_0 l hl E x co hs er fa ss w hO gw nk) kvX9_needWitness kiX9_needWitness kl_X9_141 (q0 := 0) rfl rfl (As := [.int (zI w)]) rfl rfl rfl rfl dX9_formatWitness_2 (fun q hq => hq.elim) ⟨h_cm, h_co⟩ (fun H1 hF hpo => trivial)
