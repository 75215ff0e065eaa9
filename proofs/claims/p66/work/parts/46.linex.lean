set_option maxHeartbeats 4000000 in
set_option maxRecDepth 20000 in
theorem x_X9_lineChar_0 (l : Launch) (hl : l.stackTraces = false) (E : Nat → Nat → Nat) (x : Nat) (hs : Int) (er : Int) (fa : Int) (ss : Int) (v : Nat) (N : Nat) (f : Int → Int) (ml : Int) (n : Int) (i : Int) (gi : Rg i) (nk : ¬ (0 ≤ i ∧ i < n)) (n0 : 0 ≤ n) (n1 : n ≤ (N : Int)) (N1 : N < 1000) : Tx l yX9_lineChar cX9_lineChar 2 (some .char) 6 1 6 E [] [.ref x, .int (zI i)] (fun H => PR E x [(x, .inr (11, [.ref (x + 1), .ref (x + 29), .ref (x + 57), .ref (x + 85), .ref (x + 311), .ref (x + 314), .ref (x + 319), .ref (x + 332), .int (zI hs), .int (zI er), .int (zI fa), .int (zI ss)]))] H ∧ PR E (x + 332) [(x + 332, .inr (1, [.ref v, .int (zI 0), .int (zI ml), .int (zI n)]))] H) "java/lang/IndexOutOfBoundsException" (fun H => True) := by
  refine Tx.start (own := RX9) rfl (by decide +kernel) (Nat.le_of_ble_eq_true rfl) ?_
  intro p e s m below meth cd args Q hQ X tb hlk hM hPr
  obtain ⟨h_cm, h_sb⟩ := hPr
  refine v_iload_n X dX9_lineChar_0 1 rfl 1 rfl ?_
  refine v_if_lt X (by omega) dX9_lineChar_1 4 15 rfl (by decide) (fun c_1 => ?_) (fun c_1 => ?_)
  · skip
    subst hQ; exact v_throwW X hl tb hlk hM xt_IOB xk_IOB 26 rfl dX9_lineChar_15 dX9_lineChar_18 dX9_lineChar_19 dX9_lineChar_22 dX9_lineChar_25 rfl (fun H1 hF => trivial)
  · skip
    refine v_iload_n X dX9_lineChar_4 5 rfl 1 rfl ?_
    refine v_aload_n X dX9_lineChar_5 6 rfl 0 rfl ?_
    refine v_getf X hM.C h_cm.1 inX9 0 rfl rfl 7 (by decide) kf_X9_53 (fun _ h => h) rfl dX9_lineChar_6 9 rfl ?_
    refine v_rdV X hM.C h_sb.1 (c_J4_length_8abf5 l E (x + 332) v ml n) kvJ4_length_8abf5 kiJ4_length_8abf5 kl_X9_299 rfl rfl (As := []) rfl rfl rfl dX9_lineChar_9 12 rfl ?_
    show V p l e (rmL 6 1 6) s m args below meth cd Q 2 s.heap [] 0 0 12 [(0, .ref x), (1, .int (zI i))] [.int (zI n), .int (zI i)]
    refine v_icmp_lt X (by omega) (by omega) dX9_lineChar_12 15 26 rfl (by decide) (fun c_2 => ?_) (fun c_2 => ?_)
    · skip
      exfalso; omega
    · skip
      subst hQ; exact v_throwW X hl tb hlk hM xt_IOB xk_IOB 26 rfl dX9_lineChar_15 dX9_lineChar_18 dX9_lineChar_19 dX9_lineChar_22 dX9_lineChar_25 rfl (fun H1 hF => trivial)
