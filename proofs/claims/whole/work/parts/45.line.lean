set_option maxHeartbeats 4000000 in
set_option maxRecDepth 20000 in
theorem c_X9_lineChar (l : Launch) (E : Nat → Nat → Nat) (x : Nat) (hs : Int) (er : Int) (fa : Int) (ss : Int) (v : Nat) (N : Nat) (f : Int → Int) (ml : Int) (n : Int) (i : Int) (i0 : 0 ≤ i) (i1 : i < n) (n1 : n ≤ (N : Int)) (N1 : N < 1000) (hf : ∀ j : Int, 0 ≤ f j ∧ f j < 128) : Rd l yX9_lineChar cX9_lineChar 2 (some .char) 4 E [.ref x, .int (zI i)] ([(x, .inr (11, [.ref (x + 1), .ref (x + 29), .ref (x + 57), .ref (x + 85), .ref (x + 311), .ref (x + 314), .ref (x + 319), .ref (x + 332), .int (zI hs), .int (zI er), .int (zI fa), .int (zI ss)]))] ++ [(x + 332, .inr (1, [.ref v, .int (zI 0), .int (zI ml), .int (zI n)]))] ++ [(v, .inl (E 102 2, N, .inl (zA f)))]) (some (.int (zI (f i)))) := by
  refine Rd.start (own := RX9) rfl (by decide +kernel) (Nat.le_of_ble_eq_true rfl) ?_
  intro p e s m below meth cd args Q hQ X hr hlk hC hP
  have h_sa := PW.right hP
  have h_sb := PW.right (PW.left hP)
  have h_cm := (PW.left (PW.left hP))
  refine v_iload_n X dX9_lineChar_0 1 rfl 1 rfl ?_
  refine v_if_lt X (by omega) dX9_lineChar_1 4 15 rfl (by decide) (fun c_1 => ?_) (fun c_1 => ?_)
  · skip
    exfalso; omega
  · skip
    refine v_iload_n X dX9_lineChar_4 5 rfl 1 rfl ?_
    refine v_aload_n X dX9_lineChar_5 6 rfl 0 rfl ?_
    refine v_getf X hC h_cm inX9 0 rfl rfl 7 (by decide) kf_X9_53 (fun _ h => h) rfl dX9_lineChar_6 9 rfl ?_
    refine v_rdV X hC h_sb (c_J4_length_8abf5 l E (x + 332) v ml n) kvJ4_length_8abf5 kiJ4_length_8abf5 kl_X9_299 rfl rfl (As := []) rfl rfl rfl dX9_lineChar_9 12 rfl ?_
    show V p l e (rmL 4 0 0) s m args below meth cd Q 2 s.heap [] 0 0 12 [(0, .ref x), (1, .int (zI i))] [.int (zI n), .int (zI i)]
    refine v_icmp_lt X (by omega) (by omega) dX9_lineChar_12 15 26 rfl (by decide) (fun c_2 => ?_) (fun c_2 => ?_)
    · skip
      refine v_aload_n X dX9_lineChar_26 27 rfl 0 rfl ?_
      refine v_getf X hC h_cm inX9 0 rfl rfl 7 (by decide) kf_X9_53 (fun _ h => h) rfl dX9_lineChar_27 30 rfl ?_
      refine v_iload_n X dX9_lineChar_30 31 rfl 1 rfl ?_
      refine v_rdV X hC (PW.app h_sb h_sa) (c_J4_charAt_5068e l E (x + 332) v N f ml n i i0 i1 (by omega) N1 hf) kvJ4_charAt_5068e kiJ4_charAt_5068e kl_X9_313 rfl rfl (As := [.int (zI i)]) rfl rfl rfl dX9_lineChar_31 34 rfl ?_
      show V p l e (rmL 4 0 0) s m args below meth cd Q 2 s.heap [] 0 0 34 [(0, .ref x), (1, .int (zI i))] [.int (zI (f i))]
      subst hQ; exact v_cret0 X (hf i) hr hlk dX9_lineChar_34 rfl
    · skip
      exfalso; omega
set_option maxHeartbeats 4000000 in
set_option maxRecDepth 20000 in
theorem c_X9_append (l : Launch) (E : Nat → Nat → Nat) (x : Nat) (hs : Int) (er : Int) (fa : Int) (ss : Int) (v : Nat) (N : Nat) (f : Int → Int) (pos : Int) (siz : Int) (ml : Int) (n : Int) (z : Nat) (c : Int) (c0 : 32 ≤ c) (c1 : c ≤ 126) (n0 : 0 ≤ n) (n1 : n ≤ (N : Int)) (n2 : n < 60) (hN : N = 16 ∨ N = 34 ∨ N = 70) (hf : ∀ j : Int, 0 ≤ f j ∧ f j < 128) (hbz : x + 334 ≤ z) (hd_cm_sb : x + 1 ≤ x + 320 ∨ x + 320 + 1 ≤ x) (hd_cm_sa : x + 1 ≤ v ∨ v + 1 ≤ x) (hd_pg_sb : x + 319 + 1 ≤ x + 320 ∨ x + 320 + 1 ≤ x + 319) (hd_pg_sa : x + 319 + 1 ≤ v ∨ v + 1 ≤ x + 319) (hd_sb_sa : x + 320 + 1 ≤ v ∨ v + 1 ≤ x + 320) : Mu l yX9_append cX9_append 2 (some .int) 6 1 70 E [(x + 320, 1), (v, 1)] [.ref x, .int (zI c)] (fun H => PR E x [(x, .inr (11, [.ref (x + 1), .ref (x + 29), .ref (x + 57), .ref (x + 85), .ref (x + 311), .ref (x + 314), .ref (x + 319), .ref (x + 332), .int (zI hs), .int (zI er), .int (zI fa), .int (zI ss)]))] H ∧ PR E (x + 319) [(x + 319, .inr (8, [.ref (x + 320), .int (zI pos), .int (zI siz), .ref (x + 322), .ref (x + 324), .ref (x + 326), .ref (x + 328), .ref (x + 330)]))] H ∧ PR E (x + 320) [(x + 320, .inr (1, [.ref v, .int (zI 0), .int (zI ml), .int (zI n)]))] H ∧ PR E v [(v, .inl (E 102 2, N, .inl (zA f)))] H ∧ z ≤ H.size) (fun rv H => ∃ v1 : Nat, ∃ N1 : Nat, ∃ f1 : Int → Int, rv = some (.int (zI (n + 1))) ∧ (v1 = v ∨ z ≤ v1) ∧ (N1 = 16 ∨ N1 = 34 ∨ N1 = 70) ∧ n + 1 ≤ (N1 : Int) ∧ (∀ j : Int, 0 ≤ j ∧ j < n → f1 j = f j) ∧ f1 n = c ∧ (∀ j : Int, 0 ≤ f1 j ∧ f1 j < 128) ∧ PR E (x + 320) [(x + 320, .inr (1, [.ref v1, .int (zI 0), .int (zI ml), .int (zI (n + 1))]))] H ∧ PR E v1 [(v1, .inl (E 102 2, N1, .inl (zA f1)))] H) := by
  refine Mu.start (own := RX9) rfl (by decide +kernel) (Nat.le_of_ble_eq_true rfl) ?_
  intro p e s m below meth cd args Q hQ X hr hlk hnm hM hPr
  obtain ⟨h_cm, h_pg, h_sb, h_sa, hzl⟩ := hPr
  have hz : s.heap.size = s.heap.size := rfl
  have hzl0 := hzl
  refine v_iload_n X dX9_append_0 1 rfl 1 rfl ?_
  refine v_bipush X dX9_append_1 3 rfl rfl ?_
  refine v_icmp_lt X (by omega) (by omega) dX9_append_3 6 12 rfl (by decide) (fun c_1 => ?_) (fun c_1 => ?_)
  · skip
    exfalso; omega
  · skip
    refine v_iload_n X dX9_append_6 7 rfl 1 rfl ?_
    refine v_bipush X dX9_append_7 9 rfl rfl ?_
    refine v_icmp_le X (by omega) (by omega) dX9_append_9 12 23 rfl (by decide) (fun c_2 => ?_) (fun c_2 => ?_)
    · skip
      refine v_aload_n X dX9_append_23 24 rfl 0 rfl ?_
      refine v_getf X hM.C h_cm.1 inX9 0 rfl rfl 6 (by decide) kf_X9_46 (fun _ h => h) rfl dX9_append_24 27 rfl ?_
      refine v_getfN X hM.C h_pg.1 inX5 0 rfl rfl 0 (by decide) kfn_X9_319 (fun _ h => h) rfl dX9_append_27 30 rfl ?_
      refine v_rdV X hM.C h_sb.1 (c_J4_length_8abf5 l E (x + 320) v ml n) kvJ4_length_8abf5 kiJ4_length_8abf5 kl_X9_299 rfl rfl (As := []) rfl rfl rfl dX9_append_30 33 rfl ?_
      show V p l e (rmL 6 1 70) s m args below meth cd Q 2 s.heap [] 0 0 33 [(0, .ref x), (1, .int (zI c))] [.int (zI n)]
      refine v_bipush X dX9_append_33 35 rfl rfl ?_
      refine v_icmp_lt X (by omega) (by omega) dX9_append_35 38 49 rfl (by decide) (fun c_3 => ?_) (fun c_3 => ?_)
      · skip
        refine v_aload_n X dX9_append_49 50 rfl 0 rfl ?_
        refine v_getf X hM.C h_cm.1 inX9 0 rfl rfl 6 (by decide) kf_X9_46 (fun _ h => h) rfl dX9_append_50 53 rfl ?_
        refine v_getfN X hM.C h_pg.1 inX5 0 rfl rfl 0 (by decide) kfn_X9_319 (fun _ h => h) rfl dX9_append_53 56 rfl ?_
        refine v_iload_n X dX9_append_56 57 rfl 1 rfl ?_
        refine v_muV X hM (h_sb.1) (c_J4_append_cf468 l E (x + 320) v N f ml n z c (by omega) (by omega) n0 n1 (by omega) hN hf (by omega) (by omega)) kvJ4_append_cf468 kiJ4_append_cf468 kl_X9_301 (q0 := 0) rfl rfl (As := [.int (zI c)]) rfl rfl rfl dX9_append_57 60 rfl (k' := 1) (n' := 70) rfl rfl (by intro q hq; simp only [Fr, Fs, or_false, false_or] at hq ⊢; omega) ⟨h_sb, h_sa, (by omega)⟩ (fun rv H4 lo4 hM hF hpo => ?_)
        obtain ⟨v1_5, N1_6, f1_7, rfl, hp_f_8, hp_f_9, hp_f_10, hp_f_11, hp_f_12, hp_f_13, hw_0, hw_1⟩ := hpo
        have h_sb : PR E (x + 320) [(x + 320, .inr (1, [.ref v1_5, .int (zI 0), .int (zI ml), .int (zI (n + 1))]))] H4 := hw_0
        have h_sa : PR E v1_5 [(v1_5, .inl (E 102 2, N1_6, .inl (zA f1_7)))] H4 := hw_1
        replace hzl := Nat.le_trans hzl hF.1
        replace h_cm := h_cm.kept hF 1 rfl (by intro q q1 q2 q3; simp only [Fs, or_false] at q3; omega)
        replace h_pg := h_pg.kept hF 1 rfl (by intro q q1 q2 q3; simp only [Fs, or_false] at q3; omega)
        show V p l e (rmL 6 1 70) s m args below meth cd Q 2 H4 lo4 1 70 60 [(0, .ref x), (1, .int (zI c))] [.ref (x + 320)]
        refine v_pop X dX9_append_60 61 rfl rfl ?_
        refine v_aload_n X dX9_append_61 62 rfl 0 rfl ?_
        refine v_getf X hM.C h_cm.1 inX9 0 rfl rfl 6 (by decide) kf_X9_46 (fun _ h => h) rfl dX9_append_62 65 rfl ?_
        refine v_getfN X hM.C h_pg.1 inX5 0 rfl rfl 0 (by decide) kfn_X9_319 (fun _ h => h) rfl dX9_append_65 68 rfl ?_
        refine v_rdV X hM.C h_sb.1 (c_J4_length_8abf5 l E (x + 320) v1_5 ml (n + 1)) kvJ4_length_8abf5 kiJ4_length_8abf5 kl_X9_299 rfl rfl (As := []) rfl rfl rfl dX9_append_68 71 rfl ?_
        show V p l e (rmL 6 1 70) s m args below meth cd Q 2 H4 lo4 1 70 71 [(0, .ref x), (1, .int (zI c))] [.int (zI (n + 1))]
        subst hQ; exact m_iret X hr hlk hM dX9_append_71 rfl ⟨v1_5, N1_6, f1_7, rfl, (by exact hp_f_8), (by exact hp_f_9), (by exact hp_f_10), (by exact hp_f_11), (by exact hp_f_12), (by exact hp_f_13), h_sb, h_sa⟩
      · skip
        exfalso; omega
    · skip
      exfalso; omega
