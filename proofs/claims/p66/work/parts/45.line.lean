set_option maxHeartbeats 4000000 in
set_option maxRecDepth 20000 in
theorem c_X9_lineChar (l : Launch) (E : Nat → Nat → Nat) (x : Nat) (hs : Int) (er : Int) (fa : Int) (ss : Int) (v : Nat) (N : Nat) (f : Int → Int) (ml : Int) (n : Int) (i : Int) (i0 : 0 ≤ i) (i1 : i < n) (n1 : n ≤ (N : Int)) (N1 : N < 1000) (hf : ∀ j : Int, 0 ≤ f j ∧ f j < 128) : Rd l yX9_lineChar cX9_lineChar 2 (some .char) 4 E [.ref x, .int (zI i)] ([(x, .inr (11, [.ref (x + 1), .ref (x + 29), .ref (x + 57), .ref (x + 85), .ref (x + 311), .ref (x + 314), .ref (x + 319), .ref (x + 332), .int (zI hs), .int (zI er), .int (zI fa), .int (zI ss)]))] ++ [(x + 332, .inr (1, [.ref v, .int (zI 0), .int (zI ml), .int (zI n)]))] ++ [(v, .inl (E 102 2, N, .inl (zA f)))]) (some (.int (zI (f i)))) := by
  refine Rd.start (own := RX9) rfl (by decide +kernel) (Nat.le_of_ble_eq_true rfl) ?_
  intro p e s m below meth cd args Q hQ X hr hlk hC hP
  have h_sa := PW.right hP
  have h_sb := PW.right (PW.left hP)
  have h_cm := (PW.left (PW.left hP))
  refine v_iload_n X dX9_lineChar_0 1 rfl 1 rfl ?_
  refine v_if_lt X (by omega) dX9_lineChar_1 4 15 rfl (by decide) (fun c_1 => ?_) (fun c_1 => ?_)
  · skip
    exfalso; omega
  · skip
    refine v_iload_n X dX9_lineChar_4 5 rfl 1 rfl ?_
    refine v_aload_n X dX9_lineChar_5 6 rfl 0 rfl ?_
    refine v_getf X hC h_cm inX9 0 rfl rfl 7 (by decide) kf_X9_53 (fun _ h => h) rfl dX9_lineChar_6 9 rfl ?_
    refine v_rdV X hC h_sb (c_J4_length_8abf5 l E (x + 332) v ml n) kvJ4_length_8abf5 kiJ4_length_8abf5 kl_X9_299 rfl rfl (As := []) rfl rfl rfl dX9_lineChar_9 12 rfl ?_
    show V p l e (rmL 4 0 0) s m args below meth cd Q 2 s.heap [] 0 0 12 [(0, .ref x), (1, .int (zI i))] [.int (zI n), .int (zI i)]
    refine v_icmp_lt X (by omega) (by omega) dX9_lineChar_12 15 26 rfl (by decide) (fun c_2 => ?_) (fun c_2 => ?_)
    · skip
      refine v_aload_n X dX9_lineChar_26 27 rfl 0 rfl ?_
      refine v_getf X hC h_cm inX9 0 rfl rfl 7 (by decide) kf_X9_53 (fun _ h => h) rfl dX9_lineChar_27 30 rfl ?_
      refine v_iload_n X dX9_lineChar_30 31 rfl 1 rfl ?_
      refine v_rdV X hC (PW.app h_sb h_sa) (c_J4_charAt_5068e l E (x + 332) v N f ml n i i0 i1 (by omega) N1 hf) kvJ4_charAt_5068e kiJ4_charAt_5068e kl_X9_313 rfl rfl (As := [.int (zI i)]) rfl rfl rfl dX9_lineChar_31 34 rfl ?_
      show V p l e (rmL 4 0 0) s m args below meth cd Q 2 s.heap [] 0 0 34 [(0, .ref x), (1, .int (zI i))] [.int (zI (f i))]
      subst hQ; exact v_cret0 X (hf i) hr hlk dX9_lineChar_34 rfl
    · skip
      exfalso; omega
