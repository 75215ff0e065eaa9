theorem rem10 {x : Int} (h0 : 0 ≤ x) (h1 : x < 100) : zI x - zI x / zI 10 * zI 10 = zI (x % 10) := by
  have key : ∀ j : Fin 100, zI ((j : Nat) : Int) - zI ((j : Nat) : Int) / zI 10 * zI 10 = zI (((j : Nat) : Int) % 10) := by decide +kernel
  have := key ⟨x.toNat, by omega⟩
  rwa [show ((x.toNat : Nat) : Int) = x from Int.toNat_of_nonneg h0] at this
theorem div10 {x : Int} (h0 : 0 ≤ x) (h1 : x < 100) : zI x / zI 10 = zI (x / 10) := by
  have key : ∀ j : Fin 100, zI ((j : Nat) : Int) / zI 10 = zI (((j : Nat) : Int) / 10) := by decide +kernel
  have := key ⟨x.toNat, by omega⟩
  rwa [show ((x.toNat : Nat) : Int) = x from Int.toNat_of_nonneg h0] at this
section DIV
variable {p : Program} {l : Launch} {e : Env} {R : Room} {s : State} {m : MethodId} {args : Array Value} {below : List Frame} {meth : Method} {c : Code} {Q : State → Prop} {nL : Nat} {H : Heap} {locs : List Loc} {k n : Nat} {pc : Nat} {L L' : List (Nat × Value)} {st : List Value} {cc : ByteArray} {own : String} {E : Nat → Nat → Nat}
theorem v_idiv10 {x : Int} (X : CF p m c cc nL s args own) (h0 : 0 ≤ x) (h1 : x < 100) (hdg : decode cc pc = .ok (.idiv, 1)) (pc' : Nat) (hp : pc + 1 = pc') (kk : V p l e R s m args below meth c Q nL H locs k n pc' L (.int (zI (x / 10)) :: st)) : V p l e R s m args below meth c Q nL H locs k n pc L (.int (zI 10) :: .int (zI x) :: st) := by
  subst hp
  exact fun ls hl => lv_idiv X.1 X.2.1 hdg (by decide) (by rw [div10 h0 h1]; exact kk ls hl)
theorem v_irem10 {x : Int} (X : CF p m c cc nL s args own) (h0 : 0 ≤ x) (h1 : x < 100) (hdg : decode cc pc = .ok (.irem, 1)) (pc' : Nat) (hp : pc + 1 = pc') (kk : V p l e R s m args below meth c Q nL H locs k n pc' L (.int (zI (x % 10)) :: st)) : V p l e R s m args below meth c Q nL H locs k n pc L (.int (zI 10) :: .int (zI x) :: st) := by
  subst hp
  exact fun ls hl => lv_irem X.1 X.2.1 hdg (by decide) (by rw [rem10 h0 h1]; exact kk ls hl)
end DIV
set_option maxHeartbeats 4000000 in
set_option maxRecDepth 20000 in
theorem c_X10_lineChar (l : Launch) (E : Nat → Nat → Nat) (b : Nat) (mo : Nat → Int → Int) (i : Int) (gi : Rg i) (gz : 0 ≤ mo 0 6 ∧ mo 0 6 ≤ 60) (hcr : ∀ j : Int, 0 ≤ j → j < mo 0 6 → 0 ≤ mo 2 j ∧ mo 2 j < 128) (p0 : 0 ≤ i ∧ i ≤ (mo 0 6 - 1)) : Mu l yX10_lineChar cX10_lineChar 2 (some .char) 1 0 0 E [(b, 5)] [.ref b, .int (zI i)] (fun H => PR E b (modelW E b mo) H) (fun rv H => rv = some (.int (zI (mo 2 i))) ∧ PR E b (modelW E b (updC mo 0 (updZ (mo 0) 0 0))) H) := by
  refine Mu.start (own := RX10) rfl (by decide +kernel) (Nat.le_of_ble_eq_true rfl) ?_
  intro p e s m below meth cd args Q hQ X hr hlk hnm hM hPr
  have h_mo := hPr
  refine v_aload_n X dX10_lineChar_0 1 rfl 0 rfl ?_
  refine v_iload_n X dX10_lineChar_1 2 rfl 1 rfl ?_
  refine v_iconst X dX10_lineChar_2 3 rfl ?_
  refine v_aload_n X dX10_lineChar_3 4 rfl 0 rfl ?_
  refine v_getf X hM.C h_mo.1 inX10 0 rfl rfl 6 (by decide) kf_X10_156 (fun _ h => h) rfl dX10_lineChar_4 7 rfl ?_
  show V p l e (rmL 1 0 0) s m args below meth cd Q 2 s.heap [] 0 0 7 [(0, .ref b), (1, .int (zI i))] [.int (zI (mo 0 6)), .int (zI 0), .int (zI i), .ref b]
  refine v_iconst X dX10_lineChar_7 8 rfl ?_
  refine v_isub X dX10_lineChar_8 9 rfl ?_
  refine v_rdS X hM.C (ws0 E s.heap) (c_X10_in l E i 0 (mo 0 6 - 1) gi (by omega) (by omega)) kvX10_in ksX10_in kl_X10_43 (As := [.int (zI i), .int (zI 0), .int (zI (mo 0 6 - 1))]) rfl rfl rfl dX10_lineChar_9 12 rfl ?_
  show V p l e (rmL 1 0 0) s m args below meth cd Q 2 s.heap [] 0 0 12 [(0, .ref b), (1, .int (zI i))] [.int (zI (bz (0 ≤ i ∧ i ≤ (mo 0 6 - 1)))), .ref b]
  refine V_S (st' := [.int (zI 1), .ref b]) (by rw [bz_t (φ := 0 ≤ i ∧ i ≤ (mo 0 6 - 1)) (by first | omega | assumption)]) ?_
  refine v_muV X hM (h_mo.1) (c_X10_isFine_1 l E b mo) kvX10_isFine kiX10_isFine kl_X10_124 (q0 := 0) rfl rfl (As := [.int (zI 1)]) rfl rfl rfl dX10_lineChar_12 15 rfl (k' := 0) (n' := 0) rfl rfl (fsI (fun q q1 q2 => (Or.inl (fsH (by omega) (by omega))))) h_mo (fun rv H1 lo1 hM hF hpo => ?_)
  obtain ⟨rfl, hw_0⟩ := hpo
  have h_mo : PR E b (modelW E b (updC mo 0 (updZ (mo 0) 0 0))) H1 := hw_0
  show V p l e (rmL 1 0 0) s m args below meth cd Q 2 H1 lo1 0 0 15 [(0, .ref b), (1, .int (zI i))] [.int (zI 1)]
  refine v_if_eq X (by omega) dX10_lineChar_15 18 27 rfl (by decide) (fun c_2 => ?_) (fun c_2 => ?_)
  · skip
    exfalso; omega
  · skip
    refine v_aload_n X dX10_lineChar_18 19 rfl 0 rfl ?_
    refine v_getf X hM.C h_mo.1 inX10 0 rfl rfl 5 (by decide) kf_X10_13 (fun _ h => h) rfl dX10_lineChar_19 22 rfl ?_
    refine v_iload_n X dX10_lineChar_22 23 rfl 1 rfl ?_
    refine v_cald X hM.C h_mo.1 2 rfl (by omega) (by omega) (by omega) dX10_lineChar_23 24 rfl ?_
    show V p l e (rmL 1 0 0) s m args below meth cd Q 2 H1 lo1 0 0 24 [(0, .ref b), (1, .int (zI i))] [.int (zI (mo 2 i))]
    refine v_goto X dX10_lineChar_24 28 (by decide) ?_
    subst hQ; exact m_cret X (hcr i (by omega) (by omega)) hr hlk hM dX10_lineChar_28 rfl ⟨rfl, h_mo⟩
set_option maxHeartbeats 4000000 in
set_option maxRecDepth 20000 in
theorem c_X10_lineChar_0 (l : Launch) (E : Nat → Nat → Nat) (b : Nat) (mo : Nat → Int → Int) (i : Int) (gi : Rg i) (gz : 0 ≤ mo 0 6 ∧ mo 0 6 ≤ 60) (hcr : ∀ j : Int, 0 ≤ j → j < mo 0 6 → 0 ≤ mo 2 j ∧ mo 2 j < 128) (nk : ¬ (0 ≤ i ∧ i ≤ (mo 0 6 - 1))) : Mu l yX10_lineChar cX10_lineChar 2 (some .char) 1 0 0 E [(b, 5)] [.ref b, .int (zI i)] (fun H => PR E b (modelW E b mo) H) (fun rv H => rv = some (.int (zI 0)) ∧ PR E b (modelW E b (updC mo 0 (updZ (mo 0) 0 1))) H) := by
  refine Mu.start (own := RX10) rfl (by decide +kernel) (Nat.le_of_ble_eq_true rfl) ?_
  intro p e s m below meth cd args Q hQ X hr hlk hnm hM hPr
  have h_mo := hPr
  refine v_aload_n X dX10_lineChar_0 1 rfl 0 rfl ?_
  refine v_iload_n X dX10_lineChar_1 2 rfl 1 rfl ?_
  refine v_iconst X dX10_lineChar_2 3 rfl ?_
  refine v_aload_n X dX10_lineChar_3 4 rfl 0 rfl ?_
  refine v_getf X hM.C h_mo.1 inX10 0 rfl rfl 6 (by decide) kf_X10_156 (fun _ h => h) rfl dX10_lineChar_4 7 rfl ?_
  show V p l e (rmL 1 0 0) s m args below meth cd Q 2 s.heap [] 0 0 7 [(0, .ref b), (1, .int (zI i))] [.int (zI (mo 0 6)), .int (zI 0), .int (zI i), .ref b]
  refine v_iconst X dX10_lineChar_7 8 rfl ?_
  refine v_isub X dX10_lineChar_8 9 rfl ?_
  refine v_rdS X hM.C (ws0 E s.heap) (c_X10_in l E i 0 (mo 0 6 - 1) gi (by omega) (by omega)) kvX10_in ksX10_in kl_X10_43 (As := [.int (zI i), .int (zI 0), .int (zI (mo 0 6 - 1))]) rfl rfl rfl dX10_lineChar_9 12 rfl ?_
  show V p l e (rmL 1 0 0) s m args below meth cd Q 2 s.heap [] 0 0 12 [(0, .ref b), (1, .int (zI i))] [.int (zI (bz (0 ≤ i ∧ i ≤ (mo 0 6 - 1)))), .ref b]
  refine V_S (st' := [.int (zI 0), .ref b]) (by rw [bz_f (φ := 0 ≤ i ∧ i ≤ (mo 0 6 - 1)) (by first | omega | assumption)]) ?_
  refine v_muV X hM (h_mo.1) (c_X10_isFine_0 l E b mo) kvX10_isFine kiX10_isFine kl_X10_124 (q0 := 0) rfl rfl (As := [.int (zI 0)]) rfl rfl rfl dX10_lineChar_12 15 rfl (k' := 0) (n' := 0) rfl rfl (fsI (fun q q1 q2 => (Or.inl (fsH (by omega) (by omega))))) h_mo (fun rv H1 lo1 hM hF hpo => ?_)
  obtain ⟨rfl, hw_0⟩ := hpo
  have h_mo : PR E b (modelW E b (updC mo 0 (updZ (mo 0) 0 1))) H1 := hw_0
  show V p l e (rmL 1 0 0) s m args below meth cd Q 2 H1 lo1 0 0 15 [(0, .ref b), (1, .int (zI i))] [.int (zI 0)]
  refine v_if_eq X (by omega) dX10_lineChar_15 18 27 rfl (by decide) (fun c_2 => ?_) (fun c_2 => ?_)
  · skip
    refine v_iconst X dX10_lineChar_27 28 rfl ?_
    subst hQ; exact m_cret X (by omega) hr hlk hM dX10_lineChar_28 rfl ⟨rfl, h_mo⟩
  · skip
    exfalso; omega
set_option maxHeartbeats 4000000 in
set_option maxRecDepth 20000 in
theorem c_X10_append (l : Launch) (E : Nat → Nat → Nat) (b : Nat) (mo : Nat → Int → Int) (c : Int) (gc : 0 ≤ c ∧ c < 65536) (gt : 0 ≤ mo 0 8 ∧ mo 0 8 ≤ 60) (p0 : 32 ≤ c ∧ c ≤ 126) (p1 : ¬ mo 0 8 = 60) : Mu l yX10_append cX10_append 2 (some .int) 1 0 0 E [(b, 5)] [.ref b, .int (zI c)] (fun H => PR E b (modelW E b mo) H) (fun rv H => rv = some (.int (zI (mo 0 8 + 1))) ∧ PR E b (modelW E b (updC (updC mo 0 (updZ (updZ (mo 0) 0 0) 8 (mo 0 8 + 1))) 3 (updZ (mo 3) (mo 0 8) c))) H) := by
  refine Mu.start (own := RX10) rfl (by decide +kernel) (Nat.le_of_ble_eq_true rfl) ?_
  intro p e s m below meth cd args Q hQ X hr hlk hnm hM hPr
  have h_mo := hPr
  refine v_aload_n X dX10_append_0 1 rfl 0 rfl ?_
  refine v_iload_n X dX10_append_1 2 rfl 1 rfl ?_
  refine v_bipush X dX10_append_2 4 rfl rfl ?_
  refine v_bipush X dX10_append_4 6 rfl rfl ?_
  refine v_rdS X hM.C (ws0 E s.heap) (c_X10_in l E c 32 126 (by omega) (by omega) (by omega)) kvX10_in ksX10_in kl_X10_43 (As := [.int (zI c), .int (zI 32), .int (zI 126)]) rfl rfl rfl dX10_append_6 9 rfl ?_
  show V p l e (rmL 1 0 0) s m args below meth cd Q 2 s.heap [] 0 0 9 [(0, .ref b), (1, .int (zI c))] [.int (zI (bz (32 ≤ c ∧ c ≤ 126))), .ref b]
  refine v_bif_ne X dX10_append_9 12 16 rfl (by decide) (fun c_1 => ?_) (fun c_1 => ?_)
  · skip
    refine v_aload_n X dX10_append_16 17 rfl 0 rfl ?_
    refine v_getf X hM.C h_mo.1 inX10 0 rfl rfl 8 (by decide) kf_X10_166 (fun _ h => h) rfl dX10_append_17 20 rfl ?_
    show V p l e (rmL 1 0 0) s m args below meth cd Q 2 s.heap [] 0 0 20 [(0, .ref b), (1, .int (zI c))] [.int (zI (mo 0 8)), .ref b]
    refine v_bipush X dX10_append_20 22 rfl rfl ?_
    refine v_icmp_ne X (by omega) (by omega) dX10_append_22 25 29 rfl (by decide) (fun c_2 => ?_) (fun c_2 => ?_)
    · skip
      refine v_iconst X dX10_append_29 30 rfl ?_
      refine v_putf X hM h_mo ftX10 0 rfl rfl 0 (by decide) kf_X10_30 (fun _ h => h) rfl rfl rfl (Nat.le_of_ble_eq_true rfl) (Or.inl (fsH (by omega) (by omega))) dX10_append_30 33 rfl (ws' := modelW E b (updC mo 0 (updZ (mo 0) 0 0))) rfl (fun H3 lo3 hzz hM hF h_mo => ?_)
      clear hzz
      refine v_aload_n X dX10_append_33 34 rfl 0 rfl ?_
      refine v_getf X hM.C h_mo.1 inX10 0 rfl rfl 0 (by decide) kf_X10_30 (fun _ h => h) rfl dX10_append_34 37 rfl ?_
      show V p l e (rmL 1 0 0) s m args below meth cd Q 2 H3 lo3 0 0 37 [(0, .ref b), (1, .int (zI c))] [.int (zI 0)]
      refine v_if_eq X (by omega) dX10_append_37 40 42 rfl (by decide) (fun c_4 => ?_) (fun c_4 => ?_)
      · skip
        refine v_aload_n X dX10_append_42 43 rfl 0 rfl ?_
        refine v_getf X hM.C h_mo.1 inX10 0 rfl rfl 7 (by decide) kf_X10_17 (fun _ h => h) rfl dX10_append_43 46 rfl ?_
        refine v_aload_n X dX10_append_46 47 rfl 0 rfl ?_
        refine v_getf X hM.C h_mo.1 inX10 0 rfl rfl 8 (by decide) kf_X10_166 (fun _ h => h) rfl dX10_append_47 50 rfl ?_
        show V p l e (rmL 1 0 0) s m args below meth cd Q 2 H3 lo3 0 0 50 [(0, .ref b), (1, .int (zI c))] [.int (zI (mo 0 8)), .ref (b + 3)]
        refine v_iload_n X dX10_append_50 51 rfl 1 rfl ?_
        refine v_cast X hM h_mo 3 rfl (by omega) (by omega) (by omega) (zI_char (by omega)) (Or.inl (fsH (by omega) (by omega))) dX10_append_51 52 rfl (ws' := modelW E b (updC (updC mo 0 (updZ (mo 0) 0 0)) 3 (updZ (mo 3) (mo 0 8) c))) rfl (fun H5 lo5 hzz hM hF h_mo => ?_)
        clear hzz
        refine v_aload_n X dX10_append_52 53 rfl 0 rfl ?_
        refine v_dup X dX10_append_53 54 rfl rfl ?_
        refine v_getf X hM.C h_mo.1 inX10 0 rfl rfl 8 (by decide) kf_X10_166 (fun _ h => h) rfl dX10_append_54 57 rfl ?_
        show V p l e (rmL 1 0 0) s m args below meth cd Q 2 H5 lo5 0 0 57 [(0, .ref b), (1, .int (zI c))] [.int (zI (mo 0 8)), .ref b]
        refine v_iconst X dX10_append_57 58 rfl ?_
        refine v_iadd X dX10_append_58 59 rfl ?_
        refine v_putf X hM h_mo ftX10 0 rfl rfl 8 (by decide) kf_X10_166 (fun _ h => h) rfl rfl rfl (Nat.le_of_ble_eq_true rfl) (Or.inl (fsH (by omega) (by omega))) dX10_append_59 62 rfl (ws' := modelW E b (updC (updC mo 0 (updZ (updZ (mo 0) 0 0) 8 (mo 0 8 + 1))) 3 (updZ (mo 3) (mo 0 8) c))) rfl (fun H6 lo6 hzz hM hF h_mo => ?_)
        clear hzz
        refine v_aload_n X dX10_append_62 63 rfl 0 rfl ?_
        refine v_getf X hM.C h_mo.1 inX10 0 rfl rfl 8 (by decide) kf_X10_166 (fun _ h => h) rfl dX10_append_63 66 rfl ?_
        show V p l e (rmL 1 0 0) s m args below meth cd Q 2 H6 lo6 0 0 66 [(0, .ref b), (1, .int (zI c))] [.int (zI (mo 0 8 + 1))]
        subst hQ; exact m_iret X hr hlk hM dX10_append_66 rfl ⟨rfl, h_mo⟩
      · skip
        exfalso; omega
    · skip
      refine v_iconst X dX10_append_25 26 rfl ?_
      refine v_goto X dX10_append_26 30 (by decide) ?_
      refine v_putf X hM h_mo ftX10 0 rfl rfl 0 (by decide) kf_X10_30 (fun _ h => h) rfl rfl rfl (Nat.le_of_ble_eq_true rfl) (Or.inl (fsH (by omega) (by omega))) dX10_append_30 33 rfl (ws' := modelW E b (updC mo 0 (updZ (mo 0) 0 2))) rfl (fun H7 lo7 hzz hM hF h_mo => ?_)
      clear hzz
      refine v_aload_n X dX10_append_33 34 rfl 0 rfl ?_
      refine v_getf X hM.C h_mo.1 inX10 0 rfl rfl 0 (by decide) kf_X10_30 (fun _ h => h) rfl dX10_append_34 37 rfl ?_
      show V p l e (rmL 1 0 0) s m args below meth cd Q 2 H7 lo7 0 0 37 [(0, .ref b), (1, .int (zI c))] [.int (zI 2)]
      refine v_if_eq X (by omega) dX10_append_37 40 42 rfl (by decide) (fun c_8 => ?_) (fun c_8 => ?_)
      · skip
        exfalso; omega
      · skip
        refine v_iconst X dX10_append_40 41 rfl ?_
        exfalso; omega
  · skip
    exfalso; first | omega | contradiction
set_option maxHeartbeats 4000000 in
set_option maxRecDepth 20000 in
theorem c_X10_append_0 (l : Launch) (E : Nat → Nat → Nat) (b : Nat) (mo : Nat → Int → Int) (c : Int) (gc : 0 ≤ c ∧ c < 65536) (gt : 0 ≤ mo 0 8 ∧ mo 0 8 ≤ 60) (nk : ¬ (32 ≤ c ∧ c ≤ 126)) : Mu l yX10_append cX10_append 2 (some .int) 1 0 0 E [(b, 5)] [.ref b, .int (zI c)] (fun H => PR E b (modelW E b mo) H) (fun rv H => rv = some (.int (zI 0)) ∧ PR E b (modelW E b (updC mo 0 (updZ (mo 0) 0 1))) H) := by
  refine Mu.start (own := RX10) rfl (by decide +kernel) (Nat.le_of_ble_eq_true rfl) ?_
  intro p e s m below meth cd args Q hQ X hr hlk hnm hM hPr
  have h_mo := hPr
  refine v_aload_n X dX10_append_0 1 rfl 0 rfl ?_
  refine v_iload_n X dX10_append_1 2 rfl 1 rfl ?_
  refine v_bipush X dX10_append_2 4 rfl rfl ?_
  refine v_bipush X dX10_append_4 6 rfl rfl ?_
  refine v_rdS X hM.C (ws0 E s.heap) (c_X10_in l E c 32 126 (by omega) (by omega) (by omega)) kvX10_in ksX10_in kl_X10_43 (As := [.int (zI c), .int (zI 32), .int (zI 126)]) rfl rfl rfl dX10_append_6 9 rfl ?_
  show V p l e (rmL 1 0 0) s m args below meth cd Q 2 s.heap [] 0 0 9 [(0, .ref b), (1, .int (zI c))] [.int (zI (bz (32 ≤ c ∧ c ≤ 126))), .ref b]
  refine v_bif_ne X dX10_append_9 12 16 rfl (by decide) (fun c_1 => ?_) (fun c_1 => ?_)
  · skip
    exfalso; first | omega | contradiction
  · skip
    refine v_iconst X dX10_append_12 13 rfl ?_
    refine v_goto X dX10_append_13 30 (by decide) ?_
    refine v_putf X hM h_mo ftX10 0 rfl rfl 0 (by decide) kf_X10_30 (fun _ h => h) rfl rfl rfl (Nat.le_of_ble_eq_true rfl) (Or.inl (fsH (by omega) (by omega))) dX10_append_30 33 rfl (ws' := modelW E b (updC mo 0 (updZ (mo 0) 0 1))) rfl (fun H2 lo2 hzz hM hF h_mo => ?_)
    clear hzz
    refine v_aload_n X dX10_append_33 34 rfl 0 rfl ?_
    refine v_getf X hM.C h_mo.1 inX10 0 rfl rfl 0 (by decide) kf_X10_30 (fun _ h => h) rfl dX10_append_34 37 rfl ?_
    show V p l e (rmL 1 0 0) s m args below meth cd Q 2 H2 lo2 0 0 37 [(0, .ref b), (1, .int (zI c))] [.int (zI 1)]
    refine v_if_eq X (by omega) dX10_append_37 40 42 rfl (by decide) (fun c_3 => ?_) (fun c_3 => ?_)
    · skip
      exfalso; omega
    · skip
      refine v_iconst X dX10_append_40 41 rfl ?_
      subst hQ; exact m_iret X hr hlk hM dX10_append_41 rfl ⟨rfl, h_mo⟩
set_option maxHeartbeats 4000000 in
set_option maxRecDepth 20000 in
theorem c_X10_append_1 (l : Launch) (E : Nat → Nat → Nat) (b : Nat) (mo : Nat → Int → Int) (c : Int) (gc : 0 ≤ c ∧ c < 65536) (gt : 0 ≤ mo 0 8 ∧ mo 0 8 ≤ 60) (p0 : 32 ≤ c ∧ c ≤ 126) (nk : mo 0 8 = 60) : Mu l yX10_append cX10_append 2 (some .int) 1 0 0 E [(b, 5)] [.ref b, .int (zI c)] (fun H => PR E b (modelW E b mo) H) (fun rv H => rv = some (.int (zI 0)) ∧ PR E b (modelW E b (updC mo 0 (updZ (mo 0) 0 2))) H) := by
  refine Mu.start (own := RX10) rfl (by decide +kernel) (Nat.le_of_ble_eq_true rfl) ?_
  intro p e s m below meth cd args Q hQ X hr hlk hnm hM hPr
  have h_mo := hPr
  refine v_aload_n X dX10_append_0 1 rfl 0 rfl ?_
  refine v_iload_n X dX10_append_1 2 rfl 1 rfl ?_
  refine v_bipush X dX10_append_2 4 rfl rfl ?_
  refine v_bipush X dX10_append_4 6 rfl rfl ?_
  refine v_rdS X hM.C (ws0 E s.heap) (c_X10_in l E c 32 126 (by omega) (by omega) (by omega)) kvX10_in ksX10_in kl_X10_43 (As := [.int (zI c), .int (zI 32), .int (zI 126)]) rfl rfl rfl dX10_append_6 9 rfl ?_
  show V p l e (rmL 1 0 0) s m args below meth cd Q 2 s.heap [] 0 0 9 [(0, .ref b), (1, .int (zI c))] [.int (zI (bz (32 ≤ c ∧ c ≤ 126))), .ref b]
  refine v_bif_ne X dX10_append_9 12 16 rfl (by decide) (fun c_1 => ?_) (fun c_1 => ?_)
  · skip
    refine v_aload_n X dX10_append_16 17 rfl 0 rfl ?_
    refine v_getf X hM.C h_mo.1 inX10 0 rfl rfl 8 (by decide) kf_X10_166 (fun _ h => h) rfl dX10_append_17 20 rfl ?_
    show V p l e (rmL 1 0 0) s m args below meth cd Q 2 s.heap [] 0 0 20 [(0, .ref b), (1, .int (zI c))] [.int (zI (mo 0 8)), .ref b]
    refine v_bipush X dX10_append_20 22 rfl rfl ?_
    refine v_icmp_ne X (by omega) (by omega) dX10_append_22 25 29 rfl (by decide) (fun c_2 => ?_) (fun c_2 => ?_)
    · skip
      refine v_iconst X dX10_append_29 30 rfl ?_
      refine v_putf X hM h_mo ftX10 0 rfl rfl 0 (by decide) kf_X10_30 (fun _ h => h) rfl rfl rfl (Nat.le_of_ble_eq_true rfl) (Or.inl (fsH (by omega) (by omega))) dX10_append_30 33 rfl (ws' := modelW E b (updC mo 0 (updZ (mo 0) 0 0))) rfl (fun H3 lo3 hzz hM hF h_mo => ?_)
      clear hzz
      refine v_aload_n X dX10_append_33 34 rfl 0 rfl ?_
      refine v_getf X hM.C h_mo.1 inX10 0 rfl rfl 0 (by decide) kf_X10_30 (fun _ h => h) rfl dX10_append_34 37 rfl ?_
      show V p l e (rmL 1 0 0) s m args below meth cd Q 2 H3 lo3 0 0 37 [(0, .ref b), (1, .int (zI c))] [.int (zI 0)]
      refine v_if_eq X (by omega) dX10_append_37 40 42 rfl (by decide) (fun c_4 => ?_) (fun c_4 => ?_)
      · skip
        refine v_aload_n X dX10_append_42 43 rfl 0 rfl ?_
        refine v_getf X hM.C h_mo.1 inX10 0 rfl rfl 7 (by decide) kf_X10_17 (fun _ h => h) rfl dX10_append_43 46 rfl ?_
        refine v_aload_n X dX10_append_46 47 rfl 0 rfl ?_
        refine v_getf X hM.C h_mo.1 inX10 0 rfl rfl 8 (by decide) kf_X10_166 (fun _ h => h) rfl dX10_append_47 50 rfl ?_
        show V p l e (rmL 1 0 0) s m args below meth cd Q 2 H3 lo3 0 0 50 [(0, .ref b), (1, .int (zI c))] [.int (zI (mo 0 8)), .ref (b + 3)]
        refine v_iload_n X dX10_append_50 51 rfl 1 rfl ?_
        refine v_cast X hM h_mo 3 rfl (by omega) (by omega) (by omega) (zI_char (by omega)) (Or.inl (fsH (by omega) (by omega))) dX10_append_51 52 rfl (ws' := modelW E b (updC (updC mo 0 (updZ (mo 0) 0 0)) 3 (updZ (mo 3) (mo 0 8) c))) rfl (fun H5 lo5 hzz hM hF h_mo => ?_)
        clear hzz
        refine v_aload_n X dX10_append_52 53 rfl 0 rfl ?_
        refine v_dup X dX10_append_53 54 rfl rfl ?_
        refine v_getf X hM.C h_mo.1 inX10 0 rfl rfl 8 (by decide) kf_X10_166 (fun _ h => h) rfl dX10_append_54 57 rfl ?_
        show V p l e (rmL 1 0 0) s m args below meth cd Q 2 H5 lo5 0 0 57 [(0, .ref b), (1, .int (zI c))] [.int (zI (mo 0 8)), .ref b]
        refine v_iconst X dX10_append_57 58 rfl ?_
        refine v_iadd X dX10_append_58 59 rfl ?_
        refine v_putf X hM h_mo ftX10 0 rfl rfl 8 (by decide) kf_X10_166 (fun _ h => h) rfl rfl rfl (Nat.le_of_ble_eq_true rfl) (Or.inl (fsH (by omega) (by omega))) dX10_append_59 62 rfl (ws' := modelW E b (updC (updC mo 0 (updZ (updZ (mo 0) 0 0) 8 (mo 0 8 + 1))) 3 (updZ (mo 3) (mo 0 8) c))) rfl (fun H6 lo6 hzz hM hF h_mo => ?_)
        clear hzz
        refine v_aload_n X dX10_append_62 63 rfl 0 rfl ?_
        refine v_getf X hM.C h_mo.1 inX10 0 rfl rfl 8 (by decide) kf_X10_166 (fun _ h => h) rfl dX10_append_63 66 rfl ?_
        show V p l e (rmL 1 0 0) s m args below meth cd Q 2 H6 lo6 0 0 66 [(0, .ref b), (1, .int (zI c))] [.int (zI (mo 0 8 + 1))]
        exfalso; omega
      · skip
        exfalso; omega
    · skip
      refine v_iconst X dX10_append_25 26 rfl ?_
      refine v_goto X dX10_append_26 30 (by decide) ?_
      refine v_putf X hM h_mo ftX10 0 rfl rfl 0 (by decide) kf_X10_30 (fun _ h => h) rfl rfl rfl (Nat.le_of_ble_eq_true rfl) (Or.inl (fsH (by omega) (by omega))) dX10_append_30 33 rfl (ws' := modelW E b (updC mo 0 (updZ (mo 0) 0 2))) rfl (fun H7 lo7 hzz hM hF h_mo => ?_)
      clear hzz
      refine v_aload_n X dX10_append_33 34 rfl 0 rfl ?_
      refine v_getf X hM.C h_mo.1 inX10 0 rfl rfl 0 (by decide) kf_X10_30 (fun _ h => h) rfl dX10_append_34 37 rfl ?_
      show V p l e (rmL 1 0 0) s m args below meth cd Q 2 H7 lo7 0 0 37 [(0, .ref b), (1, .int (zI c))] [.int (zI 2)]
      refine v_if_eq X (by omega) dX10_append_37 40 42 rfl (by decide) (fun c_8 => ?_) (fun c_8 => ?_)
      · skip
        exfalso; omega
      · skip
        refine v_iconst X dX10_append_40 41 rfl ?_
        subst hQ; exact m_iret X hr hlk hM dX10_append_41 rfl ⟨rfl, h_mo⟩
  · skip
    exfalso; first | omega | contradiction
set_option maxHeartbeats 4000000 in
set_option maxRecDepth 20000 in
theorem c_X10_writes (l : Launch) (E : Nat → Nat → Nat) (b : Nat) (mo : Nat → Int → Int) (x : Int) (T : List Int) (g0 : 0 ≤ mo 0 6) (g1 : mo 0 6 < 60) (x0 : 0 ≤ x) (x1 : x < 128) (hL : LT (mo 2) (mo 0 6) T) : Mu l yX10_writes cX10_writes 2 none 0 0 0 E [(b, 5)] [.ref b, .int (zI x)] (fun H => PR E b (modelW E b mo) H) (fun rv H => ∃ f1 : Int → Int, rv = none ∧ LT f1 (mo 0 6 + 1) (T ++ [x]) ∧ PR E b (modelW E b (updC (updC mo 0 (updZ (mo 0) 6 (mo 0 6 + 1))) 2 f1)) H) := by
  refine Mu.start (own := RX10) rfl (by decide +kernel) (Nat.le_of_ble_eq_true rfl) ?_
  intro p e s m below meth cd args Q hQ X hr hlk hnm hM hPr
  have h_mo := hPr
  refine v_aload_n X dX10_writes_0 1 rfl 0 rfl ?_
  refine v_getf X hM.C h_mo.1 inX10 0 rfl rfl 5 (by decide) kf_X10_13 (fun _ h => h) rfl dX10_writes_1 4 rfl ?_
  refine v_aload_n X dX10_writes_4 5 rfl 0 rfl ?_
  refine v_getf X hM.C h_mo.1 inX10 0 rfl rfl 6 (by decide) kf_X10_156 (fun _ h => h) rfl dX10_writes_5 8 rfl ?_
  show V p l e (rmL 0 0 0) s m args below meth cd Q 2 s.heap [] 0 0 8 [(0, .ref b), (1, .int (zI x))] [.int (zI (mo 0 6)), .ref (b + 2)]
  refine v_iload_n X dX10_writes_8 9 rfl 1 rfl ?_
  refine v_i2cL X (by omega) dX10_writes_9 10 rfl ?_
  refine v_cast X hM h_mo 2 rfl (by omega) (by omega) (by omega) (zI_char (by omega)) (Or.inl (fsH (by omega) (by omega))) dX10_writes_10 11 rfl (ws' := modelW E b (updC mo 2 (updZ (mo 2) (mo 0 6) x))) rfl (fun H1 lo1 hzz hM hF h_mo => ?_)
  clear hzz
  refine v_aload_n X dX10_writes_11 12 rfl 0 rfl ?_
  refine v_dup X dX10_writes_12 13 rfl rfl ?_
  refine v_getf X hM.C h_mo.1 inX10 0 rfl rfl 6 (by decide) kf_X10_156 (fun _ h => h) rfl dX10_writes_13 16 rfl ?_
  show V p l e (rmL 0 0 0) s m args below meth cd Q 2 H1 lo1 0 0 16 [(0, .ref b), (1, .int (zI x))] [.int (zI (mo 0 6)), .ref b]
  refine v_iconst X dX10_writes_16 17 rfl ?_
  refine v_iadd X dX10_writes_17 18 rfl ?_
  refine v_putf X hM h_mo ftX10 0 rfl rfl 6 (by decide) kf_X10_156 (fun _ h => h) rfl rfl rfl (Nat.le_of_ble_eq_true rfl) (Or.inl (fsH (by omega) (by omega))) dX10_writes_18 21 rfl (ws' := modelW E b (updC (updC mo 0 (updZ (mo 0) 6 (mo 0 6 + 1))) 2 (updZ (mo 2) (mo 0 6) x))) rfl (fun H2 lo2 hzz hM hF h_mo => ?_)
  clear hzz
  subst hQ; exact m_vret X hr hlk hM dX10_writes_21 rfl ⟨(updZ (mo 2) (mo 0 6) x), rfl, (by exact hL.app (fun j hj => updZ_ne _ _ (by omega)) (updZ_at _ _ _)), h_mo⟩
set_option maxHeartbeats 4000000 in
set_option maxRecDepth 20000 in
theorem c_X10_writesNumber_1 (l : Launch) (E : Nat → Nat → Nat) (b : Nat) (mo : Nat → Int → Int) (x : Int) (T : List Int) (x0 : 0 ≤ x) (x1 : x < 10) (g0 : 0 ≤ mo 0 6) (g1 : mo 0 6 < 60) (hL : LT (mo 2) (mo 0 6) T) : Mu l yX10_writesNumber cX10_writesNumber 2 none 1 0 0 E [(b, 5)] [.ref b, .int (zI x)] (fun H => PR E b (modelW E b mo) H) (fun rv H => ∃ f1 : Int → Int, rv = none ∧ LT f1 (mo 0 6 + 1) (T ++ [48 + x]) ∧ PR E b (modelW E b (updC (updC mo 0 (updZ (mo 0) 6 (mo 0 6 + 1))) 2 f1)) H) := by
  refine Mu.start (own := RX10) rfl (by decide +kernel) (Nat.le_of_ble_eq_true rfl) ?_
  intro p e s m below meth cd args Q hQ X hr hlk hnm hM hPr
  have h_mo := hPr
  refine v_iload_n X dX10_writesNumber_0 1 rfl 1 rfl ?_
  refine v_bipush X dX10_writesNumber_1 3 rfl rfl ?_
  refine v_icmp_le X (by omega) (by omega) dX10_writesNumber_3 6 14 rfl (by decide) (fun c_1 => ?_) (fun c_1 => ?_)
  · skip
    refine v_aload_n X dX10_writesNumber_14 15 rfl 0 rfl ?_
    refine v_bipush X dX10_writesNumber_15 17 rfl rfl ?_
    refine v_iload_n X dX10_writesNumber_17 18 rfl 1 rfl ?_
    refine v_bipush X dX10_writesNumber_18 20 rfl rfl ?_
    refine v_irem10 X (by omega) (by omega) dX10_writesNumber_20 21 rfl ?_
    refine v_iadd X dX10_writesNumber_21 22 rfl ?_
    refine V_S (st' := [.int (zI (48 + x)), .ref b]) (by rw [show 48 + x % 10 = 48 + x by omega]) ?_
    refine v_muV X hM (h_mo.1) (c_X10_writes l E b mo (48 + x) T g0 g1 (by omega) (by omega) hL) kvX10_writes kiX10_writes kl_X10_163 (q0 := 0) rfl rfl (As := [.int (zI (48 + x))]) rfl rfl rfl dX10_writesNumber_22 25 rfl (k' := 0) (n' := 0) rfl rfl (fsI (fun q q1 q2 => (Or.inl (fsH (by omega) (by omega))))) h_mo (fun rv H2 lo2 hM hF hpo => ?_)
    obtain ⟨f1_3, rfl, hp_f_4, hw_0⟩ := hpo
    have h_mo : PR E b (modelW E b (updC (updC mo 0 (updZ (mo 0) 6 (mo 0 6 + 1))) 2 f1_3)) H2 := hw_0
    show V p l e (rmL 1 0 0) s m args below meth cd Q 2 H2 lo2 0 0 25 [(0, .ref b), (1, .int (zI x))] []
    replace hp_f_4 : LT f1_3 (mo 0 6 + 1) (T ++ [(48 + x)]) := hp_f_4
    subst hQ; exact m_vret X hr hlk hM dX10_writesNumber_25 rfl ⟨f1_3, rfl, (by exact hp_f_4), h_mo⟩
  · skip
    exfalso; omega
set_option maxHeartbeats 4000000 in
set_option maxRecDepth 20000 in
theorem c_X10_writesNumber_2 (l : Launch) (E : Nat → Nat → Nat) (b : Nat) (mo : Nat → Int → Int) (x : Int) (T : List Int) (x0 : 10 ≤ x) (x1 : x < 100) (g0 : 0 ≤ mo 0 6) (g1 : mo 0 6 < 58) (hL : LT (mo 2) (mo 0 6) T) : Mu l yX10_writesNumber cX10_writesNumber 2 none 2 0 0 E [(b, 5)] [.ref b, .int (zI x)] (fun H => PR E b (modelW E b mo) H) (fun rv H => ∃ f1 : Int → Int, ∃ n1 : Int, rv = none ∧ LT f1 n1 (T ++ nmT x) ∧ (mo 0 6 + 1 ≤ n1 ∧ n1 ≤ mo 0 6 + 2) ∧ PR E b (modelW E b (updC (updC mo 0 (updZ (mo 0) 6 n1)) 2 f1)) H) := by
  refine Mu.start (own := RX10) rfl (by decide +kernel) (Nat.le_of_ble_eq_true rfl) ?_
  intro p e s m below meth cd args Q hQ X hr hlk hnm hM hPr
  have h_mo := hPr
  refine v_iload_n X dX10_writesNumber_0 1 rfl 1 rfl ?_
  refine v_bipush X dX10_writesNumber_1 3 rfl rfl ?_
  refine v_icmp_le X (by omega) (by omega) dX10_writesNumber_3 6 14 rfl (by decide) (fun c_1 => ?_) (fun c_1 => ?_)
  · skip
    exfalso; omega
  · skip
    refine v_aload_n X dX10_writesNumber_6 7 rfl 0 rfl ?_
    refine v_iload_n X dX10_writesNumber_7 8 rfl 1 rfl ?_
    refine v_bipush X dX10_writesNumber_8 10 rfl rfl ?_
    refine v_idiv10 X (by omega) (by omega) dX10_writesNumber_10 11 rfl ?_
    refine v_muV X hM (h_mo.1) (c_X10_writesNumber_1 l E b mo (x / 10) T (by omega) (by omega) g0 (show mo 0 6 < 60 from (by omega)) hL) kvX10_writesNumber kiX10_writesNumber kl_X10_159 (q0 := 0) rfl rfl (As := [.int (zI (x / 10))]) rfl rfl rfl dX10_writesNumber_11 14 rfl (k' := 0) (n' := 0) rfl rfl (fsI (fun q q1 q2 => (Or.inl (fsH (by omega) (by omega))))) h_mo (fun rv H2 lo2 hM hF hpo => ?_)
    obtain ⟨f1_3, rfl, hp_f_4, hw_0⟩ := hpo
    have h_mo : PR E b (modelW E b (updC (updC mo 0 (updZ (mo 0) 6 (mo 0 6 + 1))) 2 f1_3)) H2 := hw_0
    show V p l e (rmL 2 0 0) s m args below meth cd Q 2 H2 lo2 0 0 14 [(0, .ref b), (1, .int (zI x))] []
    replace hp_f_4 : LT f1_3 (mo 0 6 + 1) (T ++ [48 + (x / 10)]) := hp_f_4
    refine v_aload_n X dX10_writesNumber_14 15 rfl 0 rfl ?_
    refine v_bipush X dX10_writesNumber_15 17 rfl rfl ?_
    refine v_iload_n X dX10_writesNumber_17 18 rfl 1 rfl ?_
    refine v_bipush X dX10_writesNumber_18 20 rfl rfl ?_
    refine v_irem10 X (by omega) (by omega) dX10_writesNumber_20 21 rfl ?_
    refine v_iadd X dX10_writesNumber_21 22 rfl ?_
    refine v_muV X hM (h_mo.1) (c_X10_writes l E b (updC (updC mo 0 (updZ (mo 0) 6 (mo 0 6 + 1))) 2 f1_3) (48 + x % 10) (T ++ [48 + (x / 10)]) (show 0 ≤ (mo 0 6 + 1) from (by omega)) (show (mo 0 6 + 1) < 60 from (by omega)) (by omega) (by omega) hp_f_4) kvX10_writes kiX10_writes kl_X10_163 (q0 := 0) rfl rfl (As := [.int (zI (48 + x % 10))]) rfl rfl rfl dX10_writesNumber_22 25 rfl (k' := 0) (n' := 0) rfl rfl (fsI (fun q q1 q2 => (Or.inl (fsH (by omega) (by omega))))) h_mo (fun rv H5 lo5 hM hF hpo => ?_)
    obtain ⟨f1_6, rfl, hp_f_7, hw_0⟩ := hpo
    have h_mo : PR E b (modelW E b (updC (updC mo 0 (updZ (mo 0) 6 ((mo 0 6 + 1) + 1))) 2 f1_6)) H5 := hw_0
    show V p l e (rmL 2 0 0) s m args below meth cd Q 2 H5 lo5 0 0 25 [(0, .ref b), (1, .int (zI x))] []
    replace hp_f_7 : LT f1_6 ((mo 0 6 + 1) + 1) ((T ++ [48 + (x / 10)]) ++ [(48 + x % 10)]) := hp_f_7
    subst hQ; exact m_vret X hr hlk hM dX10_writesNumber_25 rfl ⟨f1_6, ((mo 0 6 + 1) + 1), rfl, (by rw [nmT, if_neg (by omega)]; have e := hp_f_7; rw [List.append_assoc] at e; exact e), (by omega), h_mo⟩
set_option maxHeartbeats 4000000 in
set_option maxRecDepth 20000 in
theorem c_X10_writesNumber_1b (l : Launch) (E : Nat → Nat → Nat) (b : Nat) (mo : Nat → Int → Int) (x : Int) (T : List Int) (x0 : 0 ≤ x) (x1 : x < 10) (g0 : 0 ≤ mo 0 6) (g1 : mo 0 6 < 58) (hL : LT (mo 2) (mo 0 6) T) : Mu l yX10_writesNumber cX10_writesNumber 2 none 2 0 0 E [(b, 5)] [.ref b, .int (zI x)] (fun H => PR E b (modelW E b mo) H) (fun rv H => ∃ f1 : Int → Int, ∃ n1 : Int, rv = none ∧ LT f1 n1 (T ++ nmT x) ∧ (mo 0 6 + 1 ≤ n1 ∧ n1 ≤ mo 0 6 + 2) ∧ PR E b (modelW E b (updC (updC mo 0 (updZ (mo 0) 6 n1)) 2 f1)) H) := by
  refine Mu.start (own := RX10) rfl (by decide +kernel) (Nat.le_of_ble_eq_true rfl) ?_
  intro p e s m below meth cd args Q hQ X hr hlk hnm hM hPr
  have h_mo := hPr
  refine v_iload_n X dX10_writesNumber_0 1 rfl 1 rfl ?_
  refine v_bipush X dX10_writesNumber_1 3 rfl rfl ?_
  refine v_icmp_le X (by omega) (by omega) dX10_writesNumber_3 6 14 rfl (by decide) (fun c_1 => ?_) (fun c_1 => ?_)
  · skip
    refine v_aload_n X dX10_writesNumber_14 15 rfl 0 rfl ?_
    refine v_bipush X dX10_writesNumber_15 17 rfl rfl ?_
    refine v_iload_n X dX10_writesNumber_17 18 rfl 1 rfl ?_
    refine v_bipush X dX10_writesNumber_18 20 rfl rfl ?_
    refine v_irem10 X (by omega) (by omega) dX10_writesNumber_20 21 rfl ?_
    refine v_iadd X dX10_writesNumber_21 22 rfl ?_
    refine V_S (st' := [.int (zI (48 + x)), .ref b]) (by rw [show 48 + x % 10 = 48 + x by omega]) ?_
    refine v_muV X hM (h_mo.1) (c_X10_writes l E b mo (48 + x) T g0 (show mo 0 6 < 60 from (by omega)) (by omega) (by omega) hL) kvX10_writes kiX10_writes kl_X10_163 (q0 := 0) rfl rfl (As := [.int (zI (48 + x))]) rfl rfl rfl dX10_writesNumber_22 25 rfl (k' := 0) (n' := 0) rfl rfl (fsI (fun q q1 q2 => (Or.inl (fsH (by omega) (by omega))))) h_mo (fun rv H2 lo2 hM hF hpo => ?_)
    obtain ⟨f1_3, rfl, hp_f_4, hw_0⟩ := hpo
    have h_mo : PR E b (modelW E b (updC (updC mo 0 (updZ (mo 0) 6 (mo 0 6 + 1))) 2 f1_3)) H2 := hw_0
    show V p l e (rmL 2 0 0) s m args below meth cd Q 2 H2 lo2 0 0 25 [(0, .ref b), (1, .int (zI x))] []
    replace hp_f_4 : LT f1_3 (mo 0 6 + 1) (T ++ [(48 + x)]) := hp_f_4
    subst hQ; exact m_vret X hr hlk hM dX10_writesNumber_25 rfl ⟨f1_3, (mo 0 6 + 1), rfl, (by rw [nmT, if_pos (by omega)]; exact hp_f_4), (by omega), h_mo⟩
  · skip
    exfalso; omega
theorem c_X10_writesNumber (l : Launch) (E : Nat → Nat → Nat) (b : Nat) (mo : Nat → Int → Int) (x : Int) (T : List Int) (x0 : 0 ≤ x) (x1 : x < 100) (g0 : 0 ≤ mo 0 6) (g1 : mo 0 6 < 58) (hL : LT (mo 2) (mo 0 6) T) : Mu l yX10_writesNumber cX10_writesNumber 2 none 2 0 0 E [(b, 5)] [.ref b, .int (zI x)] (fun H => PR E b (modelW E b mo) H) (fun rv H => ∃ f1 : Int → Int, ∃ n1 : Int, rv = none ∧ LT f1 n1 (T ++ nmT x) ∧ (mo 0 6 + 1 ≤ n1 ∧ n1 ≤ mo 0 6 + 2) ∧ PR E b (modelW E b (updC (updC mo 0 (updZ (mo 0) 6 n1)) 2 f1)) H) := by
  by_cases q : x < 10
  · exact c_X10_writesNumber_1b l E b mo x T x0 q g0 g1 hL
  · exact c_X10_writesNumber_2 l E b mo x T (by omega) x1 g0 g1 hL
set_option maxHeartbeats 4000000 in
set_option maxRecDepth 20000 in
theorem c_X10_formatCase (l : Launch) (E : Nat → Nat → Nat) (b : Nat) (mo : Nat → Int → Int) (co : Nat → Int → Int) (k : Int) (hO : OkC co) (hR : RelC co (mo 1)) (hI : TsI co) (gk : Rg k) (p0 : 0 ≤ k ∧ k < co 0 0) : Mu l yX10_formatCase cX10_formatCase 4 (some .int) 3 0 0 E [(b, 5)] [.ref b, .int (zI k)] (fun H => PR E b (modelW E b mo) H) (fun rv H => ∃ f1 : Int → Int, ∃ n1 : Int, rv = some (.int (zI n1)) ∧ LT f1 n1 (lnT co k (co 6 k).toNat) ∧ (0 ≤ n1 ∧ n1 ≤ 38) ∧ PR E b (modelW E b (updC (updC mo 0 (updZ (updZ (mo 0) 0 0) 6 n1)) 2 f1)) H) := by
  refine Mu.start (own := RX10) rfl (by decide +kernel) (Nat.le_of_ble_eq_true rfl) ?_
  intro p e s m below meth cd args Q hQ X hr hlk hnm hM hPr
  have h_mo := hPr
  have hb0 := hO.b0
  have hbw := hO.bw
  have hr0 := hR.s0
  have hr1 := hR.s1
  have hb6 := hO.b6 k
  refine v_aload_n X dX10_formatCase_0 1 rfl 0 rfl ?_
  refine v_aload_n X dX10_formatCase_1 2 rfl 0 rfl ?_
  refine v_iload_n X dX10_formatCase_2 3 rfl 1 rfl ?_
  refine v_rdV X hM.C h_mo.1 (c_X10_isCase l E b mo co k hO hR gk) kvX10_isCase kiX10_isCase kl_X10_92 rfl rfl (As := [.int (zI k)]) rfl rfl rfl dX10_formatCase_3 6 rfl ?_
  show V p l e (rmL 3 0 0) s m args below meth cd Q 4 s.heap [] 0 0 6 [(0, .ref b), (1, .int (zI k))] [.int (zI (bz (0 ≤ k ∧ k < co 0 0))), .ref b]
  refine V_S (st' := [.int (zI 1), .ref b]) (by rw [bz_t (φ := 0 ≤ k ∧ k < co 0 0) (by first | omega | assumption)]) ?_
  refine v_muV X hM (h_mo.1) (c_X10_isFine_1 l E b mo) kvX10_isFine kiX10_isFine kl_X10_124 (q0 := 0) rfl rfl (As := [.int (zI 1)]) rfl rfl rfl dX10_formatCase_6 9 rfl (k' := 0) (n' := 0) rfl rfl (fsI (fun q q1 q2 => (Or.inl (fsH (by omega) (by omega))))) h_mo (fun rv H1 lo1 hM hF hpo => ?_)
  obtain ⟨rfl, hw_0⟩ := hpo
  have h_mo : PR E b (modelW E b (updC mo 0 (updZ (mo 0) 0 0))) H1 := hw_0
  show V p l e (rmL 3 0 0) s m args below meth cd Q 4 H1 lo1 0 0 9 [(0, .ref b), (1, .int (zI k))] [.int (zI 1)]
  refine v_if_ne X (by omega) dX10_formatCase_9 12 14 rfl (by decide) (fun c_2 => ?_) (fun c_2 => ?_)
  · skip
    refine v_aload_n X dX10_formatCase_14 15 rfl 0 rfl ?_
    refine v_iload_n X dX10_formatCase_15 16 rfl 1 rfl ?_
    refine v_iconst X dX10_formatCase_16 17 rfl ?_
    have hb_3 := hO.b0
    refine v_rdV X hM.C h_mo.1 (c_X10_c_2 l E b (updC mo 0 (updZ (mo 0) 0 0)) co k hO hR (by omega) (by omega)) kvX10_c kiX10_c kl_X10_47 rfl rfl (As := [.int (zI k), .int (zI 2)]) rfl rfl rfl dX10_formatCase_17 20 rfl ?_
    show V p l e (rmL 3 0 0) s m args below meth cd Q 4 H1 lo1 0 0 20 [(0, .ref b), (1, .int (zI k))] [.int (zI (co 3 k))]
    have hb_4 := hO.b3 k
    refine v_istore_n X dX10_formatCase_20 21 rfl rfl (by decide) (L' := [(2, .int (zI (co 3 k))), (0, .ref b), (1, .int (zI k))]) rfl ?_
    refine v_aload_n X dX10_formatCase_21 22 rfl 1 rfl ?_
    refine v_iconst X dX10_formatCase_22 23 rfl ?_
    refine v_putf X hM h_mo ftX10 0 rfl rfl 6 (by decide) kf_X10_156 (fun _ h => h) rfl rfl rfl (Nat.le_of_ble_eq_true rfl) (Or.inl (fsH (by omega) (by omega))) dX10_formatCase_23 26 rfl (ws' := modelW E b (updC mo 0 (updZ (updZ (mo 0) 0 0) 6 0))) rfl (fun H5 lo5 hzz hM hF h_mo => ?_)
    clear hzz
    have hT0 : LT (mo 2) 0 [] := LT.nil
    refine v_aload_n X dX10_formatCase_26 27 rfl 1 rfl ?_
    refine v_iload_n X dX10_formatCase_27 28 rfl 2 rfl ?_
    refine v_muV X hM (h_mo.1) (c_X10_writesNumber l E b (updC mo 0 (updZ (updZ (mo 0) 0 0) 6 0)) k [] (by omega) (by omega) (show 0 ≤ 0 from (by omega)) (show 0 < 58 from (by omega)) hT0) kvX10_writesNumber kiX10_writesNumber kl_X10_159 (q0 := 0) rfl rfl (As := [.int (zI k)]) rfl rfl rfl dX10_formatCase_28 31 rfl (k' := 0) (n' := 0) rfl rfl (fsI (fun q q1 q2 => (Or.inl (fsH (by omega) (by omega))))) h_mo (fun rv H6 lo6 hM hF hpo => ?_)
    obtain ⟨f1_7, n1_8, rfl, hp_f_9, hp_f_10, hw_0⟩ := hpo
    have h_mo : PR E b (modelW E b (updC (updC mo 0 (updZ (updZ (mo 0) 0 0) 6 n1_8)) 2 f1_7)) H6 := hw_0
    show V p l e (rmL 3 0 0) s m args below meth cd Q 4 H6 lo6 0 0 31 [(2, .int (zI (co 3 k))), (0, .ref b), (1, .int (zI k))] []
    replace hp_f_9 : LT f1_7 n1_8 ([] ++ nmT k) := hp_f_9
    replace hp_f_10 : 0 + 1 ≤ n1_8 ∧ n1_8 ≤ 0 + 2 := hp_f_10
    refine v_aload_n X dX10_formatCase_31 32 rfl 1 rfl ?_
    refine v_bipush X dX10_formatCase_32 34 rfl rfl ?_
    refine v_muV X hM (h_mo.1) (c_X10_writes l E b (updC (updC mo 0 (updZ (updZ (mo 0) 0 0) 6 n1_8)) 2 f1_7) 58 ([] ++ nmT k) (show 0 ≤ n1_8 from (by omega)) (show n1_8 < 60 from (by omega)) (by omega) (by omega) hp_f_9) kvX10_writes kiX10_writes kl_X10_163 (q0 := 0) rfl rfl (As := [.int (zI 58)]) rfl rfl rfl dX10_formatCase_34 37 rfl (k' := 0) (n' := 0) rfl rfl (fsI (fun q q1 q2 => (Or.inl (fsH (by omega) (by omega))))) h_mo (fun rv H11 lo11 hM hF hpo => ?_)
    obtain ⟨f1_12, rfl, hp_f_13, hw_0⟩ := hpo
    have h_mo : PR E b (modelW E b (updC (updC mo 0 (updZ (updZ (mo 0) 0 0) 6 (n1_8 + 1))) 2 f1_12)) H11 := hw_0
    show V p l e (rmL 3 0 0) s m args below meth cd Q 4 H11 lo11 0 0 37 [(2, .int (zI (co 3 k))), (0, .ref b), (1, .int (zI k))] []
    replace hp_f_13 : LT f1_12 (n1_8 + 1) (([] ++ nmT k) ++ [58]) := hp_f_13
    refine v_aload_n X dX10_formatCase_37 38 rfl 1 rfl ?_
    refine v_aload_n X dX10_formatCase_38 39 rfl 1 rfl ?_
    refine v_iload_n X dX10_formatCase_39 40 rfl 2 rfl ?_
    refine v_iconst X dX10_formatCase_40 41 rfl ?_
    refine v_rdV X hM.C h_mo.1 (c_X10_c_0 l E b (updC (updC mo 0 (updZ (updZ (mo 0) 0 0) 6 (n1_8 + 1))) 2 f1_12) co k hO hR (by omega) (by omega)) kvX10_c kiX10_c kl_X10_47 rfl rfl (As := [.int (zI k), .int (zI 0)]) rfl rfl rfl dX10_formatCase_41 44 rfl ?_
    show V p l e (rmL 3 0 0) s m args below meth cd Q 4 H11 lo11 0 0 44 [(2, .int (zI (co 3 k))), (0, .ref b), (1, .int (zI k))] [.int (zI (co 1 k)), .ref b]
    have hb_14 := hO.b1 k
    refine v_muV X hM (h_mo.1) (c_X10_writesNumber_1 l E b (updC (updC mo 0 (updZ (updZ (mo 0) 0 0) 6 (n1_8 + 1))) 2 f1_12) (co 1 k) (([] ++ nmT k) ++ [58]) (by omega) (by omega) (show 0 ≤ (n1_8 + 1) from (by omega)) (show (n1_8 + 1) < 60 from (by omega)) hp_f_13) kvX10_writesNumber kiX10_writesNumber kl_X10_159 (q0 := 0) rfl rfl (As := [.int (zI (co 1 k))]) rfl rfl rfl dX10_formatCase_44 47 rfl (k' := 0) (n' := 0) rfl rfl (fsI (fun q q1 q2 => (Or.inl (fsH (by omega) (by omega))))) h_mo (fun rv H15 lo15 hM hF hpo => ?_)
    obtain ⟨f1_16, rfl, hp_f_17, hw_0⟩ := hpo
    have h_mo : PR E b (modelW E b (updC (updC mo 0 (updZ (updZ (mo 0) 0 0) 6 ((n1_8 + 1) + 1))) 2 f1_16)) H15 := hw_0
    show V p l e (rmL 3 0 0) s m args below meth cd Q 4 H15 lo15 0 0 47 [(2, .int (zI (co 3 k))), (0, .ref b), (1, .int (zI k))] []
    replace hp_f_17 : LT f1_16 ((n1_8 + 1) + 1) ((([] ++ nmT k) ++ [58]) ++ [48 + (co 1 k)]) := hp_f_17
    refine v_aload_n X dX10_formatCase_47 48 rfl 1 rfl ?_
    refine v_bipush X dX10_formatCase_48 50 rfl rfl ?_
    refine v_muV X hM (h_mo.1) (c_X10_writes l E b (updC (updC mo 0 (updZ (updZ (mo 0) 0 0) 6 ((n1_8 + 1) + 1))) 2 f1_16) 47 ((([] ++ nmT k) ++ [58]) ++ [48 + (co 1 k)]) (show 0 ≤ ((n1_8 + 1) + 1) from (by omega)) (show ((n1_8 + 1) + 1) < 60 from (by omega)) (by omega) (by omega) hp_f_17) kvX10_writes kiX10_writes kl_X10_163 (q0 := 0) rfl rfl (As := [.int (zI 47)]) rfl rfl rfl dX10_formatCase_50 53 rfl (k' := 0) (n' := 0) rfl rfl (fsI (fun q q1 q2 => (Or.inl (fsH (by omega) (by omega))))) h_mo (fun rv H18 lo18 hM hF hpo => ?_)
    obtain ⟨f1_19, rfl, hp_f_20, hw_0⟩ := hpo
    have h_mo : PR E b (modelW E b (updC (updC mo 0 (updZ (updZ (mo 0) 0 0) 6 (((n1_8 + 1) + 1) + 1))) 2 f1_19)) H18 := hw_0
    show V p l e (rmL 3 0 0) s m args below meth cd Q 4 H18 lo18 0 0 53 [(2, .int (zI (co 3 k))), (0, .ref b), (1, .int (zI k))] []
    replace hp_f_20 : LT f1_19 (((n1_8 + 1) + 1) + 1) (((([] ++ nmT k) ++ [58]) ++ [48 + (co 1 k)]) ++ [47]) := hp_f_20
    refine v_aload_n X dX10_formatCase_53 54 rfl 1 rfl ?_
    refine v_aload_n X dX10_formatCase_54 55 rfl 1 rfl ?_
    refine v_iload_n X dX10_formatCase_55 56 rfl 2 rfl ?_
    refine v_iconst X dX10_formatCase_56 57 rfl ?_
    refine v_rdV X hM.C h_mo.1 (c_X10_c_1 l E b (updC (updC mo 0 (updZ (updZ (mo 0) 0 0) 6 (((n1_8 + 1) + 1) + 1))) 2 f1_19) co k hO hR (by omega) (by omega)) kvX10_c kiX10_c kl_X10_47 rfl rfl (As := [.int (zI k), .int (zI 1)]) rfl rfl rfl dX10_formatCase_57 60 rfl ?_
    show V p l e (rmL 3 0 0) s m args below meth cd Q 4 H18 lo18 0 0 60 [(2, .int (zI (co 3 k))), (0, .ref b), (1, .int (zI k))] [.int (zI (co 2 k)), .ref b]
    have hb_21 := hO.b2 k
    refine v_muV X hM (h_mo.1) (c_X10_writesNumber_1 l E b (updC (updC mo 0 (updZ (updZ (mo 0) 0 0) 6 (((n1_8 + 1) + 1) + 1))) 2 f1_19) (co 2 k) (((([] ++ nmT k) ++ [58]) ++ [48 + (co 1 k)]) ++ [47]) (by omega) (by omega) (show 0 ≤ (((n1_8 + 1) + 1) + 1) from (by omega)) (show (((n1_8 + 1) + 1) + 1) < 60 from (by omega)) hp_f_20) kvX10_writesNumber kiX10_writesNumber kl_X10_159 (q0 := 0) rfl rfl (As := [.int (zI (co 2 k))]) rfl rfl rfl dX10_formatCase_60 63 rfl (k' := 0) (n' := 0) rfl rfl (fsI (fun q q1 q2 => (Or.inl (fsH (by omega) (by omega))))) h_mo (fun rv H22 lo22 hM hF hpo => ?_)
    obtain ⟨f1_23, rfl, hp_f_24, hw_0⟩ := hpo
    have h_mo : PR E b (modelW E b (updC (updC mo 0 (updZ (updZ (mo 0) 0 0) 6 ((((n1_8 + 1) + 1) + 1) + 1))) 2 f1_23)) H22 := hw_0
    show V p l e (rmL 3 0 0) s m args below meth cd Q 4 H22 lo22 0 0 63 [(2, .int (zI (co 3 k))), (0, .ref b), (1, .int (zI k))] []
    replace hp_f_24 : LT f1_23 ((((n1_8 + 1) + 1) + 1) + 1) ((((([] ++ nmT k) ++ [58]) ++ [48 + (co 1 k)]) ++ [47]) ++ [48 + (co 2 k)]) := hp_f_24
    refine v_aload_n X dX10_formatCase_63 64 rfl 1 rfl ?_
    refine v_iload_n X dX10_formatCase_64 65 rfl 0 rfl ?_
    refine v_if_ne X (by omega) dX10_formatCase_65 68 73 rfl (by decide) (fun c_25 => ?_) (fun c_25 => ?_)
    · skip
      refine v_aload_n X dX10_formatCase_73 74 rfl 1 rfl ?_
      refine v_iload_n X dX10_formatCase_74 75 rfl 2 rfl ?_
      refine v_iconst X dX10_formatCase_75 76 rfl ?_
      refine v_rdV X hM.C h_mo.1 (c_X10_c_3 l E b (updC (updC mo 0 (updZ (updZ (mo 0) 0 0) 6 ((((n1_8 + 1) + 1) + 1) + 1))) 2 f1_23) co k hO hR (by omega) (by omega)) kvX10_c kiX10_c kl_X10_47 rfl rfl (As := [.int (zI k), .int (zI 3)]) rfl rfl rfl dX10_formatCase_76 79 rfl ?_
      show V p l e (rmL 3 0 0) s m args below meth cd Q 4 H22 lo22 0 0 79 [(2, .int (zI (co 3 k))), (0, .ref b), (1, .int (zI k))] [.int (zI (co 4 k)), .ref b]
      have hb_26 := hO.b4 k
      refine v_iconst X dX10_formatCase_79 80 rfl ?_
      refine v_icmp_ne X (by omega) (by omega) dX10_formatCase_80 83 88 rfl (by decide) (fun c_27 => ?_) (fun c_27 => ?_)
      · skip
        refine v_bipush X dX10_formatCase_88 90 rfl rfl ?_
        refine v_muV X hM (h_mo.1) (c_X10_writes l E b (updC (updC mo 0 (updZ (updZ (mo 0) 0 0) 6 ((((n1_8 + 1) + 1) + 1) + 1))) 2 f1_23) 110 ((((([] ++ nmT k) ++ [58]) ++ [48 + (co 1 k)]) ++ [47]) ++ [48 + (co 2 k)]) (show 0 ≤ ((((n1_8 + 1) + 1) + 1) + 1) from (by omega)) (show ((((n1_8 + 1) + 1) + 1) + 1) < 60 from (by omega)) (by omega) (by omega) hp_f_24) kvX10_writes kiX10_writes kl_X10_163 (q0 := 0) rfl rfl (As := [.int (zI 110)]) rfl rfl rfl dX10_formatCase_90 93 rfl (k' := 0) (n' := 0) rfl rfl (fsI (fun q q1 q2 => (Or.inl (fsH (by omega) (by omega))))) h_mo (fun rv H28 lo28 hM hF hpo => ?_)
        obtain ⟨f1_29, rfl, hp_f_30, hw_0⟩ := hpo
        have h_mo : PR E b (modelW E b (updC (updC mo 0 (updZ (updZ (mo 0) 0 0) 6 (((((n1_8 + 1) + 1) + 1) + 1) + 1))) 2 f1_29)) H28 := hw_0
        show V p l e (rmL 3 0 0) s m args below meth cd Q 4 H28 lo28 0 0 93 [(2, .int (zI (co 3 k))), (0, .ref b), (1, .int (zI k))] []
        replace hp_f_30 : LT f1_29 (((((n1_8 + 1) + 1) + 1) + 1) + 1) (((((([] ++ nmT k) ++ [58]) ++ [48 + (co 1 k)]) ++ [47]) ++ [48 + (co 2 k)]) ++ [110]) := hp_f_30
        refine v_iload_n X dX10_formatCase_93 94 rfl 0 rfl ?_
        refine v_iconst X dX10_formatCase_94 95 rfl ?_
        refine v_icmp_ne X (by omega) (by omega) dX10_formatCase_95 98 104 rfl (by decide) (fun c_31 => ?_) (fun c_31 => ?_)
        · skip
          refine v_iconst X dX10_formatCase_104 105 rfl ?_
          refine v_istore_n X dX10_formatCase_105 106 rfl rfl (by decide) (L' := [(3, .int (zI 0)), (2, .int (zI (co 3 k))), (0, .ref b), (1, .int (zI k))]) rfl ?_
          refine v_locals [0, 2, 3, 1] (L' := [(3, .int (zI 0)), (0, .ref b), (1, .int (zI k)), (2, .int (zI (co 3 k)))]) rfl ?_
          refine V_L (L' := [(3, .int (zI 0)), (0, .ref b), (1, .int (zI k)), (2, .int (zI (co 3 k)))]) (LC (vz (by rfl)) (LC rfl (LC rfl (LC rfl rfl)))) ?_
          refine up_loop ((co 6 k).toNat) (P := fun (i : Nat) => ∀ (ff : Int → Int), ∀ (nn : Int), (LT ff nn (lnT co k i)) → (0 ≤ nn ∧ nn ≤ 8 + 5 * (i : Int)) → ∀ (H : Heap) (lo : List Loc), MS E [(b, 5)] s H lo → PR E b (modelW E b (updC (updC mo 0 (updZ (updZ (mo 0) 0 0) 6 nn)) 2 ff)) H → V p l e (rmL 3 0 0) s m args below meth cd Q 4 H lo 0 0 106 [(3, .int (zI (i : Int))), (0, .ref b), (1, .int (zI k)), (2, .int (zI (co 3 k)))] []) (fun i hi_i ih_i ff nn hLT hnn H32 lo32 hM h_mo => ?_) f1_29 (((((n1_8 + 1) + 1) + 1) + 1) + 1) (by rw [show lnT co k 0 = ((((([] ++ nmT k) ++ [58]) ++ [48 + (co 1 k)]) ++ [47]) ++ [48 + (co 2 k)]) ++ [110] by (have e1 : phT co k = 110 := by (unfold phT; first | rw [if_pos (by omega)] | rw [if_neg (by omega), if_pos (by omega)] | rw [if_neg (by omega), if_neg (by omega)])); (have e2 : clT co k = [] := by (unfold clT; rw [if_neg (by omega)])); (show hdT co k = _); rw [hdT, e1, e2, List.append_nil] <;> rfl]; exact hp_f_30) (by omega) _ _ hM h_mo
          refine v_iload_n X dX10_formatCase_106 107 rfl 0 rfl ?_
          refine v_aload_n X dX10_formatCase_107 108 rfl 1 rfl ?_
          refine v_iload_n X dX10_formatCase_108 109 rfl 2 rfl ?_
          refine v_iconst X dX10_formatCase_109 110 rfl ?_
          refine v_rdV X hM.C h_mo.1 (c_X10_c_5 l E b (updC (updC mo 0 (updZ (updZ (mo 0) 0 0) 6 nn)) 2 ff) co k hO hR (by omega) (by omega)) kvX10_c kiX10_c kl_X10_47 rfl rfl (As := [.int (zI k), .int (zI 5)]) rfl rfl rfl dX10_formatCase_110 113 rfl ?_
          show V p l e (rmL 3 0 0) s m args below meth cd Q 4 H32 lo32 0 0 113 [(3, .int (zI (i : Int))), (0, .ref b), (1, .int (zI k)), (2, .int (zI (co 3 k)))] [.int (zI (co 6 k)), .int (zI (i : Int))]
          have hb_33 := hO.b6 k
          refine v_icmp_ge X (by omega) (by omega) dX10_formatCase_113 116 178 rfl (by decide) (fun c_34 => ?_) (fun c_34 => ?_)
          · skip
            refine v_aload_n X dX10_formatCase_178 179 rfl 1 rfl ?_
            refine v_getf X hM.C h_mo.1 inX10 0 rfl rfl 6 (by decide) kf_X10_156 (fun _ h => h) rfl dX10_formatCase_179 182 rfl ?_
            show V p l e (rmL 3 0 0) s m args below meth cd Q 4 H32 lo32 0 0 182 [(3, .int (zI (i : Int))), (0, .ref b), (1, .int (zI k)), (2, .int (zI (co 3 k)))] [.int (zI nn)]
            subst hQ; exact m_iret X hr hlk hM dX10_formatCase_182 rfl ⟨ff, nn, (sv (by omega)), (by rw [show (co 6 k).toNat = i by omega]; exact hLT), (by omega), h_mo⟩
          · skip
            have hsd := hI.sd (j := (i : Int)) (k := k) (by omega) (by omega) (by omega) (by omega)
            have hb7 := hO.b7 (k * 6 + (i : Int))
            refine v_aload_n X dX10_formatCase_116 117 rfl 1 rfl ?_
            refine v_bipush X dX10_formatCase_117 119 rfl rfl ?_
            refine v_muV X hM (h_mo.1) (c_X10_writes l E b (updC (updC mo 0 (updZ (updZ (mo 0) 0 0) 6 nn)) 2 ff) 32 (lnT co k i) (show 0 ≤ nn from (by omega)) (show nn < 60 from (by omega)) (by omega) (by omega) hLT) kvX10_writes kiX10_writes kl_X10_163 (q0 := 0) rfl rfl (As := [.int (zI 32)]) rfl rfl rfl dX10_formatCase_119 122 rfl (k' := 0) (n' := 0) rfl rfl (fsI (fun q q1 q2 => (Or.inl (fsH (by omega) (by omega))))) h_mo (fun rv H35 lo35 hM hF hpo => ?_)
            obtain ⟨f1_36, rfl, hp_f_37, hw_0⟩ := hpo
            have h_mo : PR E b (modelW E b (updC (updC mo 0 (updZ (updZ (mo 0) 0 0) 6 (nn + 1))) 2 f1_36)) H35 := hw_0
            show V p l e (rmL 3 0 0) s m args below meth cd Q 4 H35 lo35 0 0 122 [(3, .int (zI (i : Int))), (0, .ref b), (1, .int (zI k)), (2, .int (zI (co 3 k)))] []
            replace hp_f_37 : LT f1_36 (nn + 1) ((lnT co k i) ++ [32]) := hp_f_37
            refine v_aload_n X dX10_formatCase_122 123 rfl 1 rfl ?_
            refine v_aload_n X dX10_formatCase_123 124 rfl 1 rfl ?_
            refine v_iload_n X dX10_formatCase_124 125 rfl 2 rfl ?_
            refine v_iload_n X dX10_formatCase_125 126 rfl 0 rfl ?_
            refine v_iconst X dX10_formatCase_126 127 rfl ?_
            refine v_rdV X hM.C h_mo.1 (c_X10_t_1 l E b (updC (updC mo 0 (updZ (updZ (mo 0) 0 0) 6 (nn + 1))) 2 f1_36) co k (i : Int) hO hR (by omega) (by omega) (by omega) (by omega)) kvX10_t kiX10_t kl_X10_51 rfl rfl (As := [.int (zI k), .int (zI (i : Int)), .int (zI 1)]) rfl rfl rfl dX10_formatCase_127 130 rfl ?_
            show V p l e (rmL 3 0 0) s m args below meth cd Q 4 H35 lo35 0 0 130 [(3, .int (zI (i : Int))), (0, .ref b), (1, .int (zI k)), (2, .int (zI (co 3 k)))] [.int (zI ((sdC co k (i : Int) + 1) / 2)), .ref b]
            refine v_iconst X dX10_formatCase_130 131 rfl ?_
            refine v_icmp_ne X (by omega) (by omega) dX10_formatCase_131 134 139 rfl (by decide) (fun c_38 => ?_) (fun c_38 => ?_)
            · skip
              refine v_bipush X dX10_formatCase_139 141 rfl rfl ?_
              refine v_muV X hM (h_mo.1) (c_X10_writes l E b (updC (updC mo 0 (updZ (updZ (mo 0) 0 0) 6 (nn + 1))) 2 f1_36) 45 ((lnT co k i) ++ [32]) (show 0 ≤ (nn + 1) from (by omega)) (show (nn + 1) < 60 from (by omega)) (by omega) (by omega) hp_f_37) kvX10_writes kiX10_writes kl_X10_163 (q0 := 0) rfl rfl (As := [.int (zI 45)]) rfl rfl rfl dX10_formatCase_141 144 rfl (k' := 0) (n' := 0) rfl rfl (fsI (fun q q1 q2 => (Or.inl (fsH (by omega) (by omega))))) h_mo (fun rv H39 lo39 hM hF hpo => ?_)
              obtain ⟨f1_40, rfl, hp_f_41, hw_0⟩ := hpo
              have h_mo : PR E b (modelW E b (updC (updC mo 0 (updZ (updZ (mo 0) 0 0) 6 ((nn + 1) + 1))) 2 f1_40)) H39 := hw_0
              show V p l e (rmL 3 0 0) s m args below meth cd Q 4 H39 lo39 0 0 144 [(3, .int (zI (i : Int))), (0, .ref b), (1, .int (zI k)), (2, .int (zI (co 3 k)))] []
              replace hp_f_41 : LT f1_40 ((nn + 1) + 1) (((lnT co k i) ++ [32]) ++ [45]) := hp_f_41
              refine v_aload_n X dX10_formatCase_144 145 rfl 1 rfl ?_
              refine v_aload_n X dX10_formatCase_145 146 rfl 1 rfl ?_
              refine v_iload_n X dX10_formatCase_146 147 rfl 2 rfl ?_
              refine v_iload_n X dX10_formatCase_147 148 rfl 0 rfl ?_
              refine v_iconst X dX10_formatCase_148 149 rfl ?_
              refine v_rdV X hM.C h_mo.1 (c_X10_t_0 l E b (updC (updC mo 0 (updZ (updZ (mo 0) 0 0) 6 ((nn + 1) + 1))) 2 f1_40) co k (i : Int) hO hR (by omega) (by omega) (by omega) (by omega)) kvX10_t kiX10_t kl_X10_51 rfl rfl (As := [.int (zI k), .int (zI (i : Int)), .int (zI 0)]) rfl rfl rfl dX10_formatCase_149 152 rfl ?_
              show V p l e (rmL 3 0 0) s m args below meth cd Q 4 H39 lo39 0 0 152 [(3, .int (zI (i : Int))), (0, .ref b), (1, .int (zI k)), (2, .int (zI (co 3 k)))] [.int (zI (co 7 (k * 6 + (i : Int)))), .ref b]
              have hb_42 := hO.b7 (k * 6 + (i : Int))
              refine v_muV X hM (h_mo.1) (c_X10_writesNumber_1 l E b (updC (updC mo 0 (updZ (updZ (mo 0) 0 0) 6 ((nn + 1) + 1))) 2 f1_40) (co 7 (k * 6 + (i : Int))) (((lnT co k i) ++ [32]) ++ [45]) (by omega) (by omega) (show 0 ≤ ((nn + 1) + 1) from (by omega)) (show ((nn + 1) + 1) < 60 from (by omega)) hp_f_41) kvX10_writesNumber kiX10_writesNumber kl_X10_159 (q0 := 0) rfl rfl (As := [.int (zI (co 7 (k * 6 + (i : Int))))]) rfl rfl rfl dX10_formatCase_152 155 rfl (k' := 0) (n' := 0) rfl rfl (fsI (fun q q1 q2 => (Or.inl (fsH (by omega) (by omega))))) h_mo (fun rv H43 lo43 hM hF hpo => ?_)
              obtain ⟨f1_44, rfl, hp_f_45, hw_0⟩ := hpo
              have h_mo : PR E b (modelW E b (updC (updC mo 0 (updZ (updZ (mo 0) 0 0) 6 (((nn + 1) + 1) + 1))) 2 f1_44)) H43 := hw_0
              show V p l e (rmL 3 0 0) s m args below meth cd Q 4 H43 lo43 0 0 155 [(3, .int (zI (i : Int))), (0, .ref b), (1, .int (zI k)), (2, .int (zI (co 3 k)))] []
              replace hp_f_45 : LT f1_44 (((nn + 1) + 1) + 1) ((((lnT co k i) ++ [32]) ++ [45]) ++ [48 + (co 7 (k * 6 + (i : Int)))]) := hp_f_45
              refine v_aload_n X dX10_formatCase_155 156 rfl 1 rfl ?_
              refine v_bipush X dX10_formatCase_156 158 rfl rfl ?_
              refine v_muV X hM (h_mo.1) (c_X10_writes l E b (updC (updC mo 0 (updZ (updZ (mo 0) 0 0) 6 (((nn + 1) + 1) + 1))) 2 f1_44) 42 ((((lnT co k i) ++ [32]) ++ [45]) ++ [48 + (co 7 (k * 6 + (i : Int)))]) (show 0 ≤ (((nn + 1) + 1) + 1) from (by omega)) (show (((nn + 1) + 1) + 1) < 60 from (by omega)) (by omega) (by omega) hp_f_45) kvX10_writes kiX10_writes kl_X10_163 (q0 := 0) rfl rfl (As := [.int (zI 42)]) rfl rfl rfl dX10_formatCase_158 161 rfl (k' := 0) (n' := 0) rfl rfl (fsI (fun q q1 q2 => (Or.inl (fsH (by omega) (by omega))))) h_mo (fun rv H46 lo46 hM hF hpo => ?_)
              obtain ⟨f1_47, rfl, hp_f_48, hw_0⟩ := hpo
              have h_mo : PR E b (modelW E b (updC (updC mo 0 (updZ (updZ (mo 0) 0 0) 6 ((((nn + 1) + 1) + 1) + 1))) 2 f1_47)) H46 := hw_0
              show V p l e (rmL 3 0 0) s m args below meth cd Q 4 H46 lo46 0 0 161 [(3, .int (zI (i : Int))), (0, .ref b), (1, .int (zI k)), (2, .int (zI (co 3 k)))] []
              replace hp_f_48 : LT f1_47 ((((nn + 1) + 1) + 1) + 1) (((((lnT co k i) ++ [32]) ++ [45]) ++ [48 + (co 7 (k * 6 + (i : Int)))]) ++ [42]) := hp_f_48
              refine v_aload_n X dX10_formatCase_161 162 rfl 1 rfl ?_
              refine v_aload_n X dX10_formatCase_162 163 rfl 1 rfl ?_
              refine v_iload_n X dX10_formatCase_163 164 rfl 2 rfl ?_
              refine v_iload_n X dX10_formatCase_164 165 rfl 0 rfl ?_
              refine v_iconst X dX10_formatCase_165 166 rfl ?_
              refine v_rdV X hM.C h_mo.1 (c_X10_t_2 l E b (updC (updC mo 0 (updZ (updZ (mo 0) 0 0) 6 ((((nn + 1) + 1) + 1) + 1))) 2 f1_47) co k (i : Int) hO hR (by omega) (by omega) (by omega) (by omega)) kvX10_t kiX10_t kl_X10_51 rfl rfl (As := [.int (zI k), .int (zI (i : Int)), .int (zI 2)]) rfl rfl rfl dX10_formatCase_166 169 rfl ?_
              show V p l e (rmL 3 0 0) s m args below meth cd Q 4 H46 lo46 0 0 169 [(3, .int (zI (i : Int))), (0, .ref b), (1, .int (zI k)), (2, .int (zI (co 3 k)))] [.int (zI (co 9 (k * 8 + co 7 (k * 6 + (i : Int))))), .ref b]
              have hb_49 := hO.b9 (k * 8 + co 7 (k * 6 + (i : Int)))
              refine v_muV X hM (h_mo.1) (c_X10_writesNumber_1 l E b (updC (updC mo 0 (updZ (updZ (mo 0) 0 0) 6 ((((nn + 1) + 1) + 1) + 1))) 2 f1_47) (co 9 (k * 8 + co 7 (k * 6 + (i : Int)))) (((((lnT co k i) ++ [32]) ++ [45]) ++ [48 + (co 7 (k * 6 + (i : Int)))]) ++ [42]) (by omega) (by omega) (show 0 ≤ ((((nn + 1) + 1) + 1) + 1) from (by omega)) (show ((((nn + 1) + 1) + 1) + 1) < 60 from (by omega)) hp_f_48) kvX10_writesNumber kiX10_writesNumber kl_X10_159 (q0 := 0) rfl rfl (As := [.int (zI (co 9 (k * 8 + co 7 (k * 6 + (i : Int)))))]) rfl rfl rfl dX10_formatCase_169 172 rfl (k' := 0) (n' := 0) rfl rfl (fsI (fun q q1 q2 => (Or.inl (fsH (by omega) (by omega))))) h_mo (fun rv H50 lo50 hM hF hpo => ?_)
              obtain ⟨f1_51, rfl, hp_f_52, hw_0⟩ := hpo
              have h_mo : PR E b (modelW E b (updC (updC mo 0 (updZ (updZ (mo 0) 0 0) 6 (((((nn + 1) + 1) + 1) + 1) + 1))) 2 f1_51)) H50 := hw_0
              show V p l e (rmL 3 0 0) s m args below meth cd Q 4 H50 lo50 0 0 172 [(3, .int (zI (i : Int))), (0, .ref b), (1, .int (zI k)), (2, .int (zI (co 3 k)))] []
              replace hp_f_52 : LT f1_51 (((((nn + 1) + 1) + 1) + 1) + 1) ((((((lnT co k i) ++ [32]) ++ [45]) ++ [48 + (co 7 (k * 6 + (i : Int)))]) ++ [42]) ++ [48 + (co 9 (k * 8 + co 7 (k * 6 + (i : Int))))]) := hp_f_52
              refine v_iinc X dX10_formatCase_172 175 rfl 0 rfl (by decide) (L' := [(3, .int (zI ((i : Int) + 1))), (0, .ref b), (1, .int (zI k)), (2, .int (zI (co 3 k)))]) rfl ?_
              refine v_goto X dX10_formatCase_175 106 (by decide) ?_
              exact V_L (L' := [(3, .int (zI ((i + 1 : Nat) : Int))), (0, .ref b), (1, .int (zI k)), (2, .int (zI (co 3 k)))]) (LC (vz (by omega)) (LC rfl (LC rfl (LC rfl rfl)))) (ih_i (by omega) f1_51 (((((nn + 1) + 1) + 1) + 1) + 1) (by rw [show lnT co k (i + 1) = (((((lnT co k i) ++ [32]) ++ [45]) ++ [48 + (co 7 (k * 6 + (i : Int)))]) ++ [42]) ++ [48 + (co 9 (k * 8 + co 7 (k * 6 + (i : Int))))] by (have e1 : sgT co k (co 7 (k * 6 + (i : Int))) = 45 := by (unfold sgT; unfold sdC at *; rw [if_neg (by omega)])); (show tsT (lnT co k i) co k (co 7 (k * 6 + (i : Int))) = _); rw [tsT, e1]]; exact hp_f_52) (by omega) _ _ hM h_mo)
            · skip
              refine v_bipush X dX10_formatCase_134 136 rfl rfl ?_
              refine v_goto X dX10_formatCase_136 141 (by decide) ?_
              refine v_muV X hM (h_mo.1) (c_X10_writes l E b (updC (updC mo 0 (updZ (updZ (mo 0) 0 0) 6 (nn + 1))) 2 f1_36) 43 ((lnT co k i) ++ [32]) (show 0 ≤ (nn + 1) from (by omega)) (show (nn + 1) < 60 from (by omega)) (by omega) (by omega) hp_f_37) kvX10_writes kiX10_writes kl_X10_163 (q0 := 0) rfl rfl (As := [.int (zI 43)]) rfl rfl rfl dX10_formatCase_141 144 rfl (k' := 0) (n' := 0) rfl rfl (fsI (fun q q1 q2 => (Or.inl (fsH (by omega) (by omega))))) h_mo (fun rv H53 lo53 hM hF hpo => ?_)
              obtain ⟨f1_54, rfl, hp_f_55, hw_0⟩ := hpo
              have h_mo : PR E b (modelW E b (updC (updC mo 0 (updZ (updZ (mo 0) 0 0) 6 ((nn + 1) + 1))) 2 f1_54)) H53 := hw_0
              show V p l e (rmL 3 0 0) s m args below meth cd Q 4 H53 lo53 0 0 144 [(3, .int (zI (i : Int))), (0, .ref b), (1, .int (zI k)), (2, .int (zI (co 3 k)))] []
              replace hp_f_55 : LT f1_54 ((nn + 1) + 1) (((lnT co k i) ++ [32]) ++ [43]) := hp_f_55
              refine v_aload_n X dX10_formatCase_144 145 rfl 1 rfl ?_
              refine v_aload_n X dX10_formatCase_145 146 rfl 1 rfl ?_
              refine v_iload_n X dX10_formatCase_146 147 rfl 2 rfl ?_
              refine v_iload_n X dX10_formatCase_147 148 rfl 0 rfl ?_
              refine v_iconst X dX10_formatCase_148 149 rfl ?_
              refine v_rdV X hM.C h_mo.1 (c_X10_t_0 l E b (updC (updC mo 0 (updZ (updZ (mo 0) 0 0) 6 ((nn + 1) + 1))) 2 f1_54) co k (i : Int) hO hR (by omega) (by omega) (by omega) (by omega)) kvX10_t kiX10_t kl_X10_51 rfl rfl (As := [.int (zI k), .int (zI (i : Int)), .int (zI 0)]) rfl rfl rfl dX10_formatCase_149 152 rfl ?_
              show V p l e (rmL 3 0 0) s m args below meth cd Q 4 H53 lo53 0 0 152 [(3, .int (zI (i : Int))), (0, .ref b), (1, .int (zI k)), (2, .int (zI (co 3 k)))] [.int (zI (co 7 (k * 6 + (i : Int)))), .ref b]
              have hb_56 := hO.b7 (k * 6 + (i : Int))
              refine v_muV X hM (h_mo.1) (c_X10_writesNumber_1 l E b (updC (updC mo 0 (updZ (updZ (mo 0) 0 0) 6 ((nn + 1) + 1))) 2 f1_54) (co 7 (k * 6 + (i : Int))) (((lnT co k i) ++ [32]) ++ [43]) (by omega) (by omega) (show 0 ≤ ((nn + 1) + 1) from (by omega)) (show ((nn + 1) + 1) < 60 from (by omega)) hp_f_55) kvX10_writesNumber kiX10_writesNumber kl_X10_159 (q0 := 0) rfl rfl (As := [.int (zI (co 7 (k * 6 + (i : Int))))]) rfl rfl rfl dX10_formatCase_152 155 rfl (k' := 0) (n' := 0) rfl rfl (fsI (fun q q1 q2 => (Or.inl (fsH (by omega) (by omega))))) h_mo (fun rv H57 lo57 hM hF hpo => ?_)
              obtain ⟨f1_58, rfl, hp_f_59, hw_0⟩ := hpo
              have h_mo : PR E b (modelW E b (updC (updC mo 0 (updZ (updZ (mo 0) 0 0) 6 (((nn + 1) + 1) + 1))) 2 f1_58)) H57 := hw_0
              show V p l e (rmL 3 0 0) s m args below meth cd Q 4 H57 lo57 0 0 155 [(3, .int (zI (i : Int))), (0, .ref b), (1, .int (zI k)), (2, .int (zI (co 3 k)))] []
              replace hp_f_59 : LT f1_58 (((nn + 1) + 1) + 1) ((((lnT co k i) ++ [32]) ++ [43]) ++ [48 + (co 7 (k * 6 + (i : Int)))]) := hp_f_59
              refine v_aload_n X dX10_formatCase_155 156 rfl 1 rfl ?_
              refine v_bipush X dX10_formatCase_156 158 rfl rfl ?_
              refine v_muV X hM (h_mo.1) (c_X10_writes l E b (updC (updC mo 0 (updZ (updZ (mo 0) 0 0) 6 (((nn + 1) + 1) + 1))) 2 f1_58) 42 ((((lnT co k i) ++ [32]) ++ [43]) ++ [48 + (co 7 (k * 6 + (i : Int)))]) (show 0 ≤ (((nn + 1) + 1) + 1) from (by omega)) (show (((nn + 1) + 1) + 1) < 60 from (by omega)) (by omega) (by omega) hp_f_59) kvX10_writes kiX10_writes kl_X10_163 (q0 := 0) rfl rfl (As := [.int (zI 42)]) rfl rfl rfl dX10_formatCase_158 161 rfl (k' := 0) (n' := 0) rfl rfl (fsI (fun q q1 q2 => (Or.inl (fsH (by omega) (by omega))))) h_mo (fun rv H60 lo60 hM hF hpo => ?_)
              obtain ⟨f1_61, rfl, hp_f_62, hw_0⟩ := hpo
              have h_mo : PR E b (modelW E b (updC (updC mo 0 (updZ (updZ (mo 0) 0 0) 6 ((((nn + 1) + 1) + 1) + 1))) 2 f1_61)) H60 := hw_0
              show V p l e (rmL 3 0 0) s m args below meth cd Q 4 H60 lo60 0 0 161 [(3, .int (zI (i : Int))), (0, .ref b), (1, .int (zI k)), (2, .int (zI (co 3 k)))] []
              replace hp_f_62 : LT f1_61 ((((nn + 1) + 1) + 1) + 1) (((((lnT co k i) ++ [32]) ++ [43]) ++ [48 + (co 7 (k * 6 + (i : Int)))]) ++ [42]) := hp_f_62
              refine v_aload_n X dX10_formatCase_161 162 rfl 1 rfl ?_
              refine v_aload_n X dX10_formatCase_162 163 rfl 1 rfl ?_
              refine v_iload_n X dX10_formatCase_163 164 rfl 2 rfl ?_
              refine v_iload_n X dX10_formatCase_164 165 rfl 0 rfl ?_
              refine v_iconst X dX10_formatCase_165 166 rfl ?_
              refine v_rdV X hM.C h_mo.1 (c_X10_t_2 l E b (updC (updC mo 0 (updZ (updZ (mo 0) 0 0) 6 ((((nn + 1) + 1) + 1) + 1))) 2 f1_61) co k (i : Int) hO hR (by omega) (by omega) (by omega) (by omega)) kvX10_t kiX10_t kl_X10_51 rfl rfl (As := [.int (zI k), .int (zI (i : Int)), .int (zI 2)]) rfl rfl rfl dX10_formatCase_166 169 rfl ?_
              show V p l e (rmL 3 0 0) s m args below meth cd Q 4 H60 lo60 0 0 169 [(3, .int (zI (i : Int))), (0, .ref b), (1, .int (zI k)), (2, .int (zI (co 3 k)))] [.int (zI (co 9 (k * 8 + co 7 (k * 6 + (i : Int))))), .ref b]
              have hb_63 := hO.b9 (k * 8 + co 7 (k * 6 + (i : Int)))
              refine v_muV X hM (h_mo.1) (c_X10_writesNumber_1 l E b (updC (updC mo 0 (updZ (updZ (mo 0) 0 0) 6 ((((nn + 1) + 1) + 1) + 1))) 2 f1_61) (co 9 (k * 8 + co 7 (k * 6 + (i : Int)))) (((((lnT co k i) ++ [32]) ++ [43]) ++ [48 + (co 7 (k * 6 + (i : Int)))]) ++ [42]) (by omega) (by omega) (show 0 ≤ ((((nn + 1) + 1) + 1) + 1) from (by omega)) (show ((((nn + 1) + 1) + 1) + 1) < 60 from (by omega)) hp_f_62) kvX10_writesNumber kiX10_writesNumber kl_X10_159 (q0 := 0) rfl rfl (As := [.int (zI (co 9 (k * 8 + co 7 (k * 6 + (i : Int)))))]) rfl rfl rfl dX10_formatCase_169 172 rfl (k' := 0) (n' := 0) rfl rfl (fsI (fun q q1 q2 => (Or.inl (fsH (by omega) (by omega))))) h_mo (fun rv H64 lo64 hM hF hpo => ?_)
              obtain ⟨f1_65, rfl, hp_f_66, hw_0⟩ := hpo
              have h_mo : PR E b (modelW E b (updC (updC mo 0 (updZ (updZ (mo 0) 0 0) 6 (((((nn + 1) + 1) + 1) + 1) + 1))) 2 f1_65)) H64 := hw_0
              show V p l e (rmL 3 0 0) s m args below meth cd Q 4 H64 lo64 0 0 172 [(3, .int (zI (i : Int))), (0, .ref b), (1, .int (zI k)), (2, .int (zI (co 3 k)))] []
              replace hp_f_66 : LT f1_65 (((((nn + 1) + 1) + 1) + 1) + 1) ((((((lnT co k i) ++ [32]) ++ [43]) ++ [48 + (co 7 (k * 6 + (i : Int)))]) ++ [42]) ++ [48 + (co 9 (k * 8 + co 7 (k * 6 + (i : Int))))]) := hp_f_66
              refine v_iinc X dX10_formatCase_172 175 rfl 0 rfl (by decide) (L' := [(3, .int (zI ((i : Int) + 1))), (0, .ref b), (1, .int (zI k)), (2, .int (zI (co 3 k)))]) rfl ?_
              refine v_goto X dX10_formatCase_175 106 (by decide) ?_
              exact V_L (L' := [(3, .int (zI ((i + 1 : Nat) : Int))), (0, .ref b), (1, .int (zI k)), (2, .int (zI (co 3 k)))]) (LC (vz (by omega)) (LC rfl (LC rfl (LC rfl rfl)))) (ih_i (by omega) f1_65 (((((nn + 1) + 1) + 1) + 1) + 1) (by rw [show lnT co k (i + 1) = (((((lnT co k i) ++ [32]) ++ [43]) ++ [48 + (co 7 (k * 6 + (i : Int)))]) ++ [42]) ++ [48 + (co 9 (k * 8 + co 7 (k * 6 + (i : Int))))] by (have e1 : sgT co k (co 7 (k * 6 + (i : Int))) = 43 := by (unfold sgT; unfold sdC at *; rw [if_pos (by omega)])); (show tsT (lnT co k i) co k (co 7 (k * 6 + (i : Int))) = _); rw [tsT, e1]]; exact hp_f_66) (by omega) _ _ hM h_mo)
        · skip
          refine v_aload_n X dX10_formatCase_98 99 rfl 1 rfl ?_
          refine v_bipush X dX10_formatCase_99 101 rfl rfl ?_
          refine v_muV X hM (h_mo.1) (c_X10_writes l E b (updC (updC mo 0 (updZ (updZ (mo 0) 0 0) 6 (((((n1_8 + 1) + 1) + 1) + 1) + 1))) 2 f1_29) 46 (((((([] ++ nmT k) ++ [58]) ++ [48 + (co 1 k)]) ++ [47]) ++ [48 + (co 2 k)]) ++ [110]) (show 0 ≤ (((((n1_8 + 1) + 1) + 1) + 1) + 1) from (by omega)) (show (((((n1_8 + 1) + 1) + 1) + 1) + 1) < 60 from (by omega)) (by omega) (by omega) hp_f_30) kvX10_writes kiX10_writes kl_X10_163 (q0 := 0) rfl rfl (As := [.int (zI 46)]) rfl rfl rfl dX10_formatCase_101 104 rfl (k' := 0) (n' := 0) rfl rfl (fsI (fun q q1 q2 => (Or.inl (fsH (by omega) (by omega))))) h_mo (fun rv H67 lo67 hM hF hpo => ?_)
          obtain ⟨f1_68, rfl, hp_f_69, hw_0⟩ := hpo
          have h_mo : PR E b (modelW E b (updC (updC mo 0 (updZ (updZ (mo 0) 0 0) 6 ((((((n1_8 + 1) + 1) + 1) + 1) + 1) + 1))) 2 f1_68)) H67 := hw_0
          show V p l e (rmL 3 0 0) s m args below meth cd Q 4 H67 lo67 0 0 104 [(2, .int (zI (co 3 k))), (0, .ref b), (1, .int (zI k))] []
          replace hp_f_69 : LT f1_68 ((((((n1_8 + 1) + 1) + 1) + 1) + 1) + 1) ((((((([] ++ nmT k) ++ [58]) ++ [48 + (co 1 k)]) ++ [47]) ++ [48 + (co 2 k)]) ++ [110]) ++ [46]) := hp_f_69
          refine v_iconst X dX10_formatCase_104 105 rfl ?_
          refine v_istore_n X dX10_formatCase_105 106 rfl rfl (by decide) (L' := [(3, .int (zI 0)), (2, .int (zI (co 3 k))), (0, .ref b), (1, .int (zI k))]) rfl ?_
          refine v_locals [0, 2, 3, 1] (L' := [(3, .int (zI 0)), (0, .ref b), (1, .int (zI k)), (2, .int (zI (co 3 k)))]) rfl ?_
          refine V_L (L' := [(3, .int (zI 0)), (0, .ref b), (1, .int (zI k)), (2, .int (zI (co 3 k)))]) (LC (vz (by rfl)) (LC rfl (LC rfl (LC rfl rfl)))) ?_
          refine up_loop ((co 6 k).toNat) (P := fun (i : Nat) => ∀ (ff : Int → Int), ∀ (nn : Int), (LT ff nn (lnT co k i)) → (0 ≤ nn ∧ nn ≤ 8 + 5 * (i : Int)) → ∀ (H : Heap) (lo : List Loc), MS E [(b, 5)] s H lo → PR E b (modelW E b (updC (updC mo 0 (updZ (updZ (mo 0) 0 0) 6 nn)) 2 ff)) H → V p l e (rmL 3 0 0) s m args below meth cd Q 4 H lo 0 0 106 [(3, .int (zI (i : Int))), (0, .ref b), (1, .int (zI k)), (2, .int (zI (co 3 k)))] []) (fun i hi_i ih_i ff nn hLT hnn H70 lo70 hM h_mo => ?_) f1_68 ((((((n1_8 + 1) + 1) + 1) + 1) + 1) + 1) (by rw [show lnT co k 0 = (((((([] ++ nmT k) ++ [58]) ++ [48 + (co 1 k)]) ++ [47]) ++ [48 + (co 2 k)]) ++ [110]) ++ [46] by (have e1 : phT co k = 110 := by (unfold phT; first | rw [if_pos (by omega)] | rw [if_neg (by omega), if_pos (by omega)] | rw [if_neg (by omega), if_neg (by omega)])); (have e2 : clT co k = [46] := by (unfold clT; rw [if_pos (by omega)])); (show hdT co k = _); rw [hdT, e1, e2] <;> rfl]; exact hp_f_69) (by omega) _ _ hM h_mo
          refine v_iload_n X dX10_formatCase_106 107 rfl 0 rfl ?_
          refine v_aload_n X dX10_formatCase_107 108 rfl 1 rfl ?_
          refine v_iload_n X dX10_formatCase_108 109 rfl 2 rfl ?_
          refine v_iconst X dX10_formatCase_109 110 rfl ?_
          refine v_rdV X hM.C h_mo.1 (c_X10_c_5 l E b (updC (updC mo 0 (updZ (updZ (mo 0) 0 0) 6 nn)) 2 ff) co k hO hR (by omega) (by omega)) kvX10_c kiX10_c kl_X10_47 rfl rfl (As := [.int (zI k), .int (zI 5)]) rfl rfl rfl dX10_formatCase_110 113 rfl ?_
          show V p l e (rmL 3 0 0) s m args below meth cd Q 4 H70 lo70 0 0 113 [(3, .int (zI (i : Int))), (0, .ref b), (1, .int (zI k)), (2, .int (zI (co 3 k)))] [.int (zI (co 6 k)), .int (zI (i : Int))]
          have hb_71 := hO.b6 k
          refine v_icmp_ge X (by omega) (by omega) dX10_formatCase_113 116 178 rfl (by decide) (fun c_72 => ?_) (fun c_72 => ?_)
          · skip
            refine v_aload_n X dX10_formatCase_178 179 rfl 1 rfl ?_
            refine v_getf X hM.C h_mo.1 inX10 0 rfl rfl 6 (by decide) kf_X10_156 (fun _ h => h) rfl dX10_formatCase_179 182 rfl ?_
            show V p l e (rmL 3 0 0) s m args below meth cd Q 4 H70 lo70 0 0 182 [(3, .int (zI (i : Int))), (0, .ref b), (1, .int (zI k)), (2, .int (zI (co 3 k)))] [.int (zI nn)]
            subst hQ; exact m_iret X hr hlk hM dX10_formatCase_182 rfl ⟨ff, nn, (sv (by omega)), (by rw [show (co 6 k).toNat = i by omega]; exact hLT), (by omega), h_mo⟩
          · skip
            have hsd := hI.sd (j := (i : Int)) (k := k) (by omega) (by omega) (by omega) (by omega)
            have hb7 := hO.b7 (k * 6 + (i : Int))
            refine v_aload_n X dX10_formatCase_116 117 rfl 1 rfl ?_
            refine v_bipush X dX10_formatCase_117 119 rfl rfl ?_
            refine v_muV X hM (h_mo.1) (c_X10_writes l E b (updC (updC mo 0 (updZ (updZ (mo 0) 0 0) 6 nn)) 2 ff) 32 (lnT co k i) (show 0 ≤ nn from (by omega)) (show nn < 60 from (by omega)) (by omega) (by omega) hLT) kvX10_writes kiX10_writes kl_X10_163 (q0 := 0) rfl rfl (As := [.int (zI 32)]) rfl rfl rfl dX10_formatCase_119 122 rfl (k' := 0) (n' := 0) rfl rfl (fsI (fun q q1 q2 => (Or.inl (fsH (by omega) (by omega))))) h_mo (fun rv H73 lo73 hM hF hpo => ?_)
            obtain ⟨f1_74, rfl, hp_f_75, hw_0⟩ := hpo
            have h_mo : PR E b (modelW E b (updC (updC mo 0 (updZ (updZ (mo 0) 0 0) 6 (nn + 1))) 2 f1_74)) H73 := hw_0
            show V p l e (rmL 3 0 0) s m args below meth cd Q 4 H73 lo73 0 0 122 [(3, .int (zI (i : Int))), (0, .ref b), (1, .int (zI k)), (2, .int (zI (co 3 k)))] []
            replace hp_f_75 : LT f1_74 (nn + 1) ((lnT co k i) ++ [32]) := hp_f_75
            refine v_aload_n X dX10_formatCase_122 123 rfl 1 rfl ?_
            refine v_aload_n X dX10_formatCase_123 124 rfl 1 rfl ?_
            refine v_iload_n X dX10_formatCase_124 125 rfl 2 rfl ?_
            refine v_iload_n X dX10_formatCase_125 126 rfl 0 rfl ?_
            refine v_iconst X dX10_formatCase_126 127 rfl ?_
            refine v_rdV X hM.C h_mo.1 (c_X10_t_1 l E b (updC (updC mo 0 (updZ (updZ (mo 0) 0 0) 6 (nn + 1))) 2 f1_74) co k (i : Int) hO hR (by omega) (by omega) (by omega) (by omega)) kvX10_t kiX10_t kl_X10_51 rfl rfl (As := [.int (zI k), .int (zI (i : Int)), .int (zI 1)]) rfl rfl rfl dX10_formatCase_127 130 rfl ?_
            show V p l e (rmL 3 0 0) s m args below meth cd Q 4 H73 lo73 0 0 130 [(3, .int (zI (i : Int))), (0, .ref b), (1, .int (zI k)), (2, .int (zI (co 3 k)))] [.int (zI ((sdC co k (i : Int) + 1) / 2)), .ref b]
            refine v_iconst X dX10_formatCase_130 131 rfl ?_
            refine v_icmp_ne X (by omega) (by omega) dX10_formatCase_131 134 139 rfl (by decide) (fun c_76 => ?_) (fun c_76 => ?_)
            · skip
              refine v_bipush X dX10_formatCase_139 141 rfl rfl ?_
              refine v_muV X hM (h_mo.1) (c_X10_writes l E b (updC (updC mo 0 (updZ (updZ (mo 0) 0 0) 6 (nn + 1))) 2 f1_74) 45 ((lnT co k i) ++ [32]) (show 0 ≤ (nn + 1) from (by omega)) (show (nn + 1) < 60 from (by omega)) (by omega) (by omega) hp_f_75) kvX10_writes kiX10_writes kl_X10_163 (q0 := 0) rfl rfl (As := [.int (zI 45)]) rfl rfl rfl dX10_formatCase_141 144 rfl (k' := 0) (n' := 0) rfl rfl (fsI (fun q q1 q2 => (Or.inl (fsH (by omega) (by omega))))) h_mo (fun rv H77 lo77 hM hF hpo => ?_)
              obtain ⟨f1_78, rfl, hp_f_79, hw_0⟩ := hpo
              have h_mo : PR E b (modelW E b (updC (updC mo 0 (updZ (updZ (mo 0) 0 0) 6 ((nn + 1) + 1))) 2 f1_78)) H77 := hw_0
              show V p l e (rmL 3 0 0) s m args below meth cd Q 4 H77 lo77 0 0 144 [(3, .int (zI (i : Int))), (0, .ref b), (1, .int (zI k)), (2, .int (zI (co 3 k)))] []
              replace hp_f_79 : LT f1_78 ((nn + 1) + 1) (((lnT co k i) ++ [32]) ++ [45]) := hp_f_79
              refine v_aload_n X dX10_formatCase_144 145 rfl 1 rfl ?_
              refine v_aload_n X dX10_formatCase_145 146 rfl 1 rfl ?_
              refine v_iload_n X dX10_formatCase_146 147 rfl 2 rfl ?_
              refine v_iload_n X dX10_formatCase_147 148 rfl 0 rfl ?_
              refine v_iconst X dX10_formatCase_148 149 rfl ?_
              refine v_rdV X hM.C h_mo.1 (c_X10_t_0 l E b (updC (updC mo 0 (updZ (updZ (mo 0) 0 0) 6 ((nn + 1) + 1))) 2 f1_78) co k (i : Int) hO hR (by omega) (by omega) (by omega) (by omega)) kvX10_t kiX10_t kl_X10_51 rfl rfl (As := [.int (zI k), .int (zI (i : Int)), .int (zI 0)]) rfl rfl rfl dX10_formatCase_149 152 rfl ?_
              show V p l e (rmL 3 0 0) s m args below meth cd Q 4 H77 lo77 0 0 152 [(3, .int (zI (i : Int))), (0, .ref b), (1, .int (zI k)), (2, .int (zI (co 3 k)))] [.int (zI (co 7 (k * 6 + (i : Int)))), .ref b]
              have hb_80 := hO.b7 (k * 6 + (i : Int))
              refine v_muV X hM (h_mo.1) (c_X10_writesNumber_1 l E b (updC (updC mo 0 (updZ (updZ (mo 0) 0 0) 6 ((nn + 1) + 1))) 2 f1_78) (co 7 (k * 6 + (i : Int))) (((lnT co k i) ++ [32]) ++ [45]) (by omega) (by omega) (show 0 ≤ ((nn + 1) + 1) from (by omega)) (show ((nn + 1) + 1) < 60 from (by omega)) hp_f_79) kvX10_writesNumber kiX10_writesNumber kl_X10_159 (q0 := 0) rfl rfl (As := [.int (zI (co 7 (k * 6 + (i : Int))))]) rfl rfl rfl dX10_formatCase_152 155 rfl (k' := 0) (n' := 0) rfl rfl (fsI (fun q q1 q2 => (Or.inl (fsH (by omega) (by omega))))) h_mo (fun rv H81 lo81 hM hF hpo => ?_)
              obtain ⟨f1_82, rfl, hp_f_83, hw_0⟩ := hpo
              have h_mo : PR E b (modelW E b (updC (updC mo 0 (updZ (updZ (mo 0) 0 0) 6 (((nn + 1) + 1) + 1))) 2 f1_82)) H81 := hw_0
              show V p l e (rmL 3 0 0) s m args below meth cd Q 4 H81 lo81 0 0 155 [(3, .int (zI (i : Int))), (0, .ref b), (1, .int (zI k)), (2, .int (zI (co 3 k)))] []
              replace hp_f_83 : LT f1_82 (((nn + 1) + 1) + 1) ((((lnT co k i) ++ [32]) ++ [45]) ++ [48 + (co 7 (k * 6 + (i : Int)))]) := hp_f_83
              refine v_aload_n X dX10_formatCase_155 156 rfl 1 rfl ?_
              refine v_bipush X dX10_formatCase_156 158 rfl rfl ?_
              refine v_muV X hM (h_mo.1) (c_X10_writes l E b (updC (updC mo 0 (updZ (updZ (mo 0) 0 0) 6 (((nn + 1) + 1) + 1))) 2 f1_82) 42 ((((lnT co k i) ++ [32]) ++ [45]) ++ [48 + (co 7 (k * 6 + (i : Int)))]) (show 0 ≤ (((nn + 1) + 1) + 1) from (by omega)) (show (((nn + 1) + 1) + 1) < 60 from (by omega)) (by omega) (by omega) hp_f_83) kvX10_writes kiX10_writes kl_X10_163 (q0 := 0) rfl rfl (As := [.int (zI 42)]) rfl rfl rfl dX10_formatCase_158 161 rfl (k' := 0) (n' := 0) rfl rfl (fsI (fun q q1 q2 => (Or.inl (fsH (by omega) (by omega))))) h_mo (fun rv H84 lo84 hM hF hpo => ?_)
              obtain ⟨f1_85, rfl, hp_f_86, hw_0⟩ := hpo
              have h_mo : PR E b (modelW E b (updC (updC mo 0 (updZ (updZ (mo 0) 0 0) 6 ((((nn + 1) + 1) + 1) + 1))) 2 f1_85)) H84 := hw_0
              show V p l e (rmL 3 0 0) s m args below meth cd Q 4 H84 lo84 0 0 161 [(3, .int (zI (i : Int))), (0, .ref b), (1, .int (zI k)), (2, .int (zI (co 3 k)))] []
              replace hp_f_86 : LT f1_85 ((((nn + 1) + 1) + 1) + 1) (((((lnT co k i) ++ [32]) ++ [45]) ++ [48 + (co 7 (k * 6 + (i : Int)))]) ++ [42]) := hp_f_86
              refine v_aload_n X dX10_formatCase_161 162 rfl 1 rfl ?_
              refine v_aload_n X dX10_formatCase_162 163 rfl 1 rfl ?_
              refine v_iload_n X dX10_formatCase_163 164 rfl 2 rfl ?_
              refine v_iload_n X dX10_formatCase_164 165 rfl 0 rfl ?_
              refine v_iconst X dX10_formatCase_165 166 rfl ?_
              refine v_rdV X hM.C h_mo.1 (c_X10_t_2 l E b (updC (updC mo 0 (updZ (updZ (mo 0) 0 0) 6 ((((nn + 1) + 1) + 1) + 1))) 2 f1_85) co k (i : Int) hO hR (by omega) (by omega) (by omega) (by omega)) kvX10_t kiX10_t kl_X10_51 rfl rfl (As := [.int (zI k), .int (zI (i : Int)), .int (zI 2)]) rfl rfl rfl dX10_formatCase_166 169 rfl ?_
              show V p l e (rmL 3 0 0) s m args below meth cd Q 4 H84 lo84 0 0 169 [(3, .int (zI (i : Int))), (0, .ref b), (1, .int (zI k)), (2, .int (zI (co 3 k)))] [.int (zI (co 9 (k * 8 + co 7 (k * 6 + (i : Int))))), .ref b]
              have hb_87 := hO.b9 (k * 8 + co 7 (k * 6 + (i : Int)))
              refine v_muV X hM (h_mo.1) (c_X10_writesNumber_1 l E b (updC (updC mo 0 (updZ (updZ (mo 0) 0 0) 6 ((((nn + 1) + 1) + 1) + 1))) 2 f1_85) (co 9 (k * 8 + co 7 (k * 6 + (i : Int)))) (((((lnT co k i) ++ [32]) ++ [45]) ++ [48 + (co 7 (k * 6 + (i : Int)))]) ++ [42]) (by omega) (by omega) (show 0 ≤ ((((nn + 1) + 1) + 1) + 1) from (by omega)) (show ((((nn + 1) + 1) + 1) + 1) < 60 from (by omega)) hp_f_86) kvX10_writesNumber kiX10_writesNumber kl_X10_159 (q0 := 0) rfl rfl (As := [.int (zI (co 9 (k * 8 + co 7 (k * 6 + (i : Int)))))]) rfl rfl rfl dX10_formatCase_169 172 rfl (k' := 0) (n' := 0) rfl rfl (fsI (fun q q1 q2 => (Or.inl (fsH (by omega) (by omega))))) h_mo (fun rv H88 lo88 hM hF hpo => ?_)
              obtain ⟨f1_89, rfl, hp_f_90, hw_0⟩ := hpo
              have h_mo : PR E b (modelW E b (updC (updC mo 0 (updZ (updZ (mo 0) 0 0) 6 (((((nn + 1) + 1) + 1) + 1) + 1))) 2 f1_89)) H88 := hw_0
              show V p l e (rmL 3 0 0) s m args below meth cd Q 4 H88 lo88 0 0 172 [(3, .int (zI (i : Int))), (0, .ref b), (1, .int (zI k)), (2, .int (zI (co 3 k)))] []
              replace hp_f_90 : LT f1_89 (((((nn + 1) + 1) + 1) + 1) + 1) ((((((lnT co k i) ++ [32]) ++ [45]) ++ [48 + (co 7 (k * 6 + (i : Int)))]) ++ [42]) ++ [48 + (co 9 (k * 8 + co 7 (k * 6 + (i : Int))))]) := hp_f_90
              refine v_iinc X dX10_formatCase_172 175 rfl 0 rfl (by decide) (L' := [(3, .int (zI ((i : Int) + 1))), (0, .ref b), (1, .int (zI k)), (2, .int (zI (co 3 k)))]) rfl ?_
              refine v_goto X dX10_formatCase_175 106 (by decide) ?_
              exact V_L (L' := [(3, .int (zI ((i + 1 : Nat) : Int))), (0, .ref b), (1, .int (zI k)), (2, .int (zI (co 3 k)))]) (LC (vz (by omega)) (LC rfl (LC rfl (LC rfl rfl)))) (ih_i (by omega) f1_89 (((((nn + 1) + 1) + 1) + 1) + 1) (by rw [show lnT co k (i + 1) = (((((lnT co k i) ++ [32]) ++ [45]) ++ [48 + (co 7 (k * 6 + (i : Int)))]) ++ [42]) ++ [48 + (co 9 (k * 8 + co 7 (k * 6 + (i : Int))))] by (have e1 : sgT co k (co 7 (k * 6 + (i : Int))) = 45 := by (unfold sgT; unfold sdC at *; rw [if_neg (by omega)])); (show tsT (lnT co k i) co k (co 7 (k * 6 + (i : Int))) = _); rw [tsT, e1]]; exact hp_f_90) (by omega) _ _ hM h_mo)
            · skip
              refine v_bipush X dX10_formatCase_134 136 rfl rfl ?_
              refine v_goto X dX10_formatCase_136 141 (by decide) ?_
              refine v_muV X hM (h_mo.1) (c_X10_writes l E b (updC (updC mo 0 (updZ (updZ (mo 0) 0 0) 6 (nn + 1))) 2 f1_74) 43 ((lnT co k i) ++ [32]) (show 0 ≤ (nn + 1) from (by omega)) (show (nn + 1) < 60 from (by omega)) (by omega) (by omega) hp_f_75) kvX10_writes kiX10_writes kl_X10_163 (q0 := 0) rfl rfl (As := [.int (zI 43)]) rfl rfl rfl dX10_formatCase_141 144 rfl (k' := 0) (n' := 0) rfl rfl (fsI (fun q q1 q2 => (Or.inl (fsH (by omega) (by omega))))) h_mo (fun rv H91 lo91 hM hF hpo => ?_)
              obtain ⟨f1_92, rfl, hp_f_93, hw_0⟩ := hpo
              have h_mo : PR E b (modelW E b (updC (updC mo 0 (updZ (updZ (mo 0) 0 0) 6 ((nn + 1) + 1))) 2 f1_92)) H91 := hw_0
              show V p l e (rmL 3 0 0) s m args below meth cd Q 4 H91 lo91 0 0 144 [(3, .int (zI (i : Int))), (0, .ref b), (1, .int (zI k)), (2, .int (zI (co 3 k)))] []
              replace hp_f_93 : LT f1_92 ((nn + 1) + 1) (((lnT co k i) ++ [32]) ++ [43]) := hp_f_93
              refine v_aload_n X dX10_formatCase_144 145 rfl 1 rfl ?_
              refine v_aload_n X dX10_formatCase_145 146 rfl 1 rfl ?_
              refine v_iload_n X dX10_formatCase_146 147 rfl 2 rfl ?_
              refine v_iload_n X dX10_formatCase_147 148 rfl 0 rfl ?_
              refine v_iconst X dX10_formatCase_148 149 rfl ?_
              refine v_rdV X hM.C h_mo.1 (c_X10_t_0 l E b (updC (updC mo 0 (updZ (updZ (mo 0) 0 0) 6 ((nn + 1) + 1))) 2 f1_92) co k (i : Int) hO hR (by omega) (by omega) (by omega) (by omega)) kvX10_t kiX10_t kl_X10_51 rfl rfl (As := [.int (zI k), .int (zI (i : Int)), .int (zI 0)]) rfl rfl rfl dX10_formatCase_149 152 rfl ?_
              show V p l e (rmL 3 0 0) s m args below meth cd Q 4 H91 lo91 0 0 152 [(3, .int (zI (i : Int))), (0, .ref b), (1, .int (zI k)), (2, .int (zI (co 3 k)))] [.int (zI (co 7 (k * 6 + (i : Int)))), .ref b]
              have hb_94 := hO.b7 (k * 6 + (i : Int))
              refine v_muV X hM (h_mo.1) (c_X10_writesNumber_1 l E b (updC (updC mo 0 (updZ (updZ (mo 0) 0 0) 6 ((nn + 1) + 1))) 2 f1_92) (co 7 (k * 6 + (i : Int))) (((lnT co k i) ++ [32]) ++ [43]) (by omega) (by omega) (show 0 ≤ ((nn + 1) + 1) from (by omega)) (show ((nn + 1) + 1) < 60 from (by omega)) hp_f_93) kvX10_writesNumber kiX10_writesNumber kl_X10_159 (q0 := 0) rfl rfl (As := [.int (zI (co 7 (k * 6 + (i : Int))))]) rfl rfl rfl dX10_formatCase_152 155 rfl (k' := 0) (n' := 0) rfl rfl (fsI (fun q q1 q2 => (Or.inl (fsH (by omega) (by omega))))) h_mo (fun rv H95 lo95 hM hF hpo => ?_)
              obtain ⟨f1_96, rfl, hp_f_97, hw_0⟩ := hpo
              have h_mo : PR E b (modelW E b (updC (updC mo 0 (updZ (updZ (mo 0) 0 0) 6 (((nn + 1) + 1) + 1))) 2 f1_96)) H95 := hw_0
              show V p l e (rmL 3 0 0) s m args below meth cd Q 4 H95 lo95 0 0 155 [(3, .int (zI (i : Int))), (0, .ref b), (1, .int (zI k)), (2, .int (zI (co 3 k)))] []
              replace hp_f_97 : LT f1_96 (((nn + 1) + 1) + 1) ((((lnT co k i) ++ [32]) ++ [43]) ++ [48 + (co 7 (k * 6 + (i : Int)))]) := hp_f_97
              refine v_aload_n X dX10_formatCase_155 156 rfl 1 rfl ?_
              refine v_bipush X dX10_formatCase_156 158 rfl rfl ?_
              refine v_muV X hM (h_mo.1) (c_X10_writes l E b (updC (updC mo 0 (updZ (updZ (mo 0) 0 0) 6 (((nn + 1) + 1) + 1))) 2 f1_96) 42 ((((lnT co k i) ++ [32]) ++ [43]) ++ [48 + (co 7 (k * 6 + (i : Int)))]) (show 0 ≤ (((nn + 1) + 1) + 1) from (by omega)) (show (((nn + 1) + 1) + 1) < 60 from (by omega)) (by omega) (by omega) hp_f_97) kvX10_writes kiX10_writes kl_X10_163 (q0 := 0) rfl rfl (As := [.int (zI 42)]) rfl rfl rfl dX10_formatCase_158 161 rfl (k' := 0) (n' := 0) rfl rfl (fsI (fun q q1 q2 => (Or.inl (fsH (by omega) (by omega))))) h_mo (fun rv H98 lo98 hM hF hpo => ?_)
              obtain ⟨f1_99, rfl, hp_f_100, hw_0⟩ := hpo
              have h_mo : PR E b (modelW E b (updC (updC mo 0 (updZ (updZ (mo 0) 0 0) 6 ((((nn + 1) + 1) + 1) + 1))) 2 f1_99)) H98 := hw_0
              show V p l e (rmL 3 0 0) s m args below meth cd Q 4 H98 lo98 0 0 161 [(3, .int (zI (i : Int))), (0, .ref b), (1, .int (zI k)), (2, .int (zI (co 3 k)))] []
              replace hp_f_100 : LT f1_99 ((((nn + 1) + 1) + 1) + 1) (((((lnT co k i) ++ [32]) ++ [43]) ++ [48 + (co 7 (k * 6 + (i : Int)))]) ++ [42]) := hp_f_100
              refine v_aload_n X dX10_formatCase_161 162 rfl 1 rfl ?_
              refine v_aload_n X dX10_formatCase_162 163 rfl 1 rfl ?_
              refine v_iload_n X dX10_formatCase_163 164 rfl 2 rfl ?_
              refine v_iload_n X dX10_formatCase_164 165 rfl 0 rfl ?_
              refine v_iconst X dX10_formatCase_165 166 rfl ?_
              refine v_rdV X hM.C h_mo.1 (c_X10_t_2 l E b (updC (updC mo 0 (updZ (updZ (mo 0) 0 0) 6 ((((nn + 1) + 1) + 1) + 1))) 2 f1_99) co k (i : Int) hO hR (by omega) (by omega) (by omega) (by omega)) kvX10_t kiX10_t kl_X10_51 rfl rfl (As := [.int (zI k), .int (zI (i : Int)), .int (zI 2)]) rfl rfl rfl dX10_formatCase_166 169 rfl ?_
              show V p l e (rmL 3 0 0) s m args below meth cd Q 4 H98 lo98 0 0 169 [(3, .int (zI (i : Int))), (0, .ref b), (1, .int (zI k)), (2, .int (zI (co 3 k)))] [.int (zI (co 9 (k * 8 + co 7 (k * 6 + (i : Int))))), .ref b]
              have hb_101 := hO.b9 (k * 8 + co 7 (k * 6 + (i : Int)))
              refine v_muV X hM (h_mo.1) (c_X10_writesNumber_1 l E b (updC (updC mo 0 (updZ (updZ (mo 0) 0 0) 6 ((((nn + 1) + 1) + 1) + 1))) 2 f1_99) (co 9 (k * 8 + co 7 (k * 6 + (i : Int)))) (((((lnT co k i) ++ [32]) ++ [43]) ++ [48 + (co 7 (k * 6 + (i : Int)))]) ++ [42]) (by omega) (by omega) (show 0 ≤ ((((nn + 1) + 1) + 1) + 1) from (by omega)) (show ((((nn + 1) + 1) + 1) + 1) < 60 from (by omega)) hp_f_100) kvX10_writesNumber kiX10_writesNumber kl_X10_159 (q0 := 0) rfl rfl (As := [.int (zI (co 9 (k * 8 + co 7 (k * 6 + (i : Int)))))]) rfl rfl rfl dX10_formatCase_169 172 rfl (k' := 0) (n' := 0) rfl rfl (fsI (fun q q1 q2 => (Or.inl (fsH (by omega) (by omega))))) h_mo (fun rv H102 lo102 hM hF hpo => ?_)
              obtain ⟨f1_103, rfl, hp_f_104, hw_0⟩ := hpo
              have h_mo : PR E b (modelW E b (updC (updC mo 0 (updZ (updZ (mo 0) 0 0) 6 (((((nn + 1) + 1) + 1) + 1) + 1))) 2 f1_103)) H102 := hw_0
              show V p l e (rmL 3 0 0) s m args below meth cd Q 4 H102 lo102 0 0 172 [(3, .int (zI (i : Int))), (0, .ref b), (1, .int (zI k)), (2, .int (zI (co 3 k)))] []
              replace hp_f_104 : LT f1_103 (((((nn + 1) + 1) + 1) + 1) + 1) ((((((lnT co k i) ++ [32]) ++ [43]) ++ [48 + (co 7 (k * 6 + (i : Int)))]) ++ [42]) ++ [48 + (co 9 (k * 8 + co 7 (k * 6 + (i : Int))))]) := hp_f_104
              refine v_iinc X dX10_formatCase_172 175 rfl 0 rfl (by decide) (L' := [(3, .int (zI ((i : Int) + 1))), (0, .ref b), (1, .int (zI k)), (2, .int (zI (co 3 k)))]) rfl ?_
              refine v_goto X dX10_formatCase_175 106 (by decide) ?_
              exact V_L (L' := [(3, .int (zI ((i + 1 : Nat) : Int))), (0, .ref b), (1, .int (zI k)), (2, .int (zI (co 3 k)))]) (LC (vz (by omega)) (LC rfl (LC rfl (LC rfl rfl)))) (ih_i (by omega) f1_103 (((((nn + 1) + 1) + 1) + 1) + 1) (by rw [show lnT co k (i + 1) = (((((lnT co k i) ++ [32]) ++ [43]) ++ [48 + (co 7 (k * 6 + (i : Int)))]) ++ [42]) ++ [48 + (co 9 (k * 8 + co 7 (k * 6 + (i : Int))))] by (have e1 : sgT co k (co 7 (k * 6 + (i : Int))) = 43 := by (unfold sgT; unfold sdC at *; rw [if_pos (by omega)])); (show tsT (lnT co k i) co k (co 7 (k * 6 + (i : Int))) = _); rw [tsT, e1]]; exact hp_f_104) (by omega) _ _ hM h_mo)
      · skip
        refine v_bipush X dX10_formatCase_83 85 rfl rfl ?_
        refine v_goto X dX10_formatCase_85 90 (by decide) ?_
        refine v_muV X hM (h_mo.1) (c_X10_writes l E b (updC (updC mo 0 (updZ (updZ (mo 0) 0 0) 6 ((((n1_8 + 1) + 1) + 1) + 1))) 2 f1_23) 103 ((((([] ++ nmT k) ++ [58]) ++ [48 + (co 1 k)]) ++ [47]) ++ [48 + (co 2 k)]) (show 0 ≤ ((((n1_8 + 1) + 1) + 1) + 1) from (by omega)) (show ((((n1_8 + 1) + 1) + 1) + 1) < 60 from (by omega)) (by omega) (by omega) hp_f_24) kvX10_writes kiX10_writes kl_X10_163 (q0 := 0) rfl rfl (As := [.int (zI 103)]) rfl rfl rfl dX10_formatCase_90 93 rfl (k' := 0) (n' := 0) rfl rfl (fsI (fun q q1 q2 => (Or.inl (fsH (by omega) (by omega))))) h_mo (fun rv H105 lo105 hM hF hpo => ?_)
        obtain ⟨f1_106, rfl, hp_f_107, hw_0⟩ := hpo
        have h_mo : PR E b (modelW E b (updC (updC mo 0 (updZ (updZ (mo 0) 0 0) 6 (((((n1_8 + 1) + 1) + 1) + 1) + 1))) 2 f1_106)) H105 := hw_0
        show V p l e (rmL 3 0 0) s m args below meth cd Q 4 H105 lo105 0 0 93 [(2, .int (zI (co 3 k))), (0, .ref b), (1, .int (zI k))] []
        replace hp_f_107 : LT f1_106 (((((n1_8 + 1) + 1) + 1) + 1) + 1) (((((([] ++ nmT k) ++ [58]) ++ [48 + (co 1 k)]) ++ [47]) ++ [48 + (co 2 k)]) ++ [103]) := hp_f_107
        refine v_iload_n X dX10_formatCase_93 94 rfl 0 rfl ?_
        refine v_iconst X dX10_formatCase_94 95 rfl ?_
        refine v_icmp_ne X (by omega) (by omega) dX10_formatCase_95 98 104 rfl (by decide) (fun c_108 => ?_) (fun c_108 => ?_)
        · skip
          refine v_iconst X dX10_formatCase_104 105 rfl ?_
          refine v_istore_n X dX10_formatCase_105 106 rfl rfl (by decide) (L' := [(3, .int (zI 0)), (2, .int (zI (co 3 k))), (0, .ref b), (1, .int (zI k))]) rfl ?_
          refine v_locals [0, 2, 3, 1] (L' := [(3, .int (zI 0)), (0, .ref b), (1, .int (zI k)), (2, .int (zI (co 3 k)))]) rfl ?_
          refine V_L (L' := [(3, .int (zI 0)), (0, .ref b), (1, .int (zI k)), (2, .int (zI (co 3 k)))]) (LC (vz (by rfl)) (LC rfl (LC rfl (LC rfl rfl)))) ?_
          refine up_loop ((co 6 k).toNat) (P := fun (i : Nat) => ∀ (ff : Int → Int), ∀ (nn : Int), (LT ff nn (lnT co k i)) → (0 ≤ nn ∧ nn ≤ 8 + 5 * (i : Int)) → ∀ (H : Heap) (lo : List Loc), MS E [(b, 5)] s H lo → PR E b (modelW E b (updC (updC mo 0 (updZ (updZ (mo 0) 0 0) 6 nn)) 2 ff)) H → V p l e (rmL 3 0 0) s m args below meth cd Q 4 H lo 0 0 106 [(3, .int (zI (i : Int))), (0, .ref b), (1, .int (zI k)), (2, .int (zI (co 3 k)))] []) (fun i hi_i ih_i ff nn hLT hnn H109 lo109 hM h_mo => ?_) f1_106 (((((n1_8 + 1) + 1) + 1) + 1) + 1) (by rw [show lnT co k 0 = ((((([] ++ nmT k) ++ [58]) ++ [48 + (co 1 k)]) ++ [47]) ++ [48 + (co 2 k)]) ++ [103] by (have e1 : phT co k = 103 := by (unfold phT; first | rw [if_pos (by omega)] | rw [if_neg (by omega), if_pos (by omega)] | rw [if_neg (by omega), if_neg (by omega)])); (have e2 : clT co k = [] := by (unfold clT; rw [if_neg (by omega)])); (show hdT co k = _); rw [hdT, e1, e2, List.append_nil] <;> rfl]; exact hp_f_107) (by omega) _ _ hM h_mo
          refine v_iload_n X dX10_formatCase_106 107 rfl 0 rfl ?_
          refine v_aload_n X dX10_formatCase_107 108 rfl 1 rfl ?_
          refine v_iload_n X dX10_formatCase_108 109 rfl 2 rfl ?_
          refine v_iconst X dX10_formatCase_109 110 rfl ?_
          refine v_rdV X hM.C h_mo.1 (c_X10_c_5 l E b (updC (updC mo 0 (updZ (updZ (mo 0) 0 0) 6 nn)) 2 ff) co k hO hR (by omega) (by omega)) kvX10_c kiX10_c kl_X10_47 rfl rfl (As := [.int (zI k), .int (zI 5)]) rfl rfl rfl dX10_formatCase_110 113 rfl ?_
          show V p l e (rmL 3 0 0) s m args below meth cd Q 4 H109 lo109 0 0 113 [(3, .int (zI (i : Int))), (0, .ref b), (1, .int (zI k)), (2, .int (zI (co 3 k)))] [.int (zI (co 6 k)), .int (zI (i : Int))]
          have hb_110 := hO.b6 k
          refine v_icmp_ge X (by omega) (by omega) dX10_formatCase_113 116 178 rfl (by decide) (fun c_111 => ?_) (fun c_111 => ?_)
          · skip
            refine v_aload_n X dX10_formatCase_178 179 rfl 1 rfl ?_
            refine v_getf X hM.C h_mo.1 inX10 0 rfl rfl 6 (by decide) kf_X10_156 (fun _ h => h) rfl dX10_formatCase_179 182 rfl ?_
            show V p l e (rmL 3 0 0) s m args below meth cd Q 4 H109 lo109 0 0 182 [(3, .int (zI (i : Int))), (0, .ref b), (1, .int (zI k)), (2, .int (zI (co 3 k)))] [.int (zI nn)]
            subst hQ; exact m_iret X hr hlk hM dX10_formatCase_182 rfl ⟨ff, nn, (sv (by omega)), (by rw [show (co 6 k).toNat = i by omega]; exact hLT), (by omega), h_mo⟩
          · skip
            have hsd := hI.sd (j := (i : Int)) (k := k) (by omega) (by omega) (by omega) (by omega)
            have hb7 := hO.b7 (k * 6 + (i : Int))
            refine v_aload_n X dX10_formatCase_116 117 rfl 1 rfl ?_
            refine v_bipush X dX10_formatCase_117 119 rfl rfl ?_
            refine v_muV X hM (h_mo.1) (c_X10_writes l E b (updC (updC mo 0 (updZ (updZ (mo 0) 0 0) 6 nn)) 2 ff) 32 (lnT co k i) (show 0 ≤ nn from (by omega)) (show nn < 60 from (by omega)) (by omega) (by omega) hLT) kvX10_writes kiX10_writes kl_X10_163 (q0 := 0) rfl rfl (As := [.int (zI 32)]) rfl rfl rfl dX10_formatCase_119 122 rfl (k' := 0) (n' := 0) rfl rfl (fsI (fun q q1 q2 => (Or.inl (fsH (by omega) (by omega))))) h_mo (fun rv H112 lo112 hM hF hpo => ?_)
            obtain ⟨f1_113, rfl, hp_f_114, hw_0⟩ := hpo
            have h_mo : PR E b (modelW E b (updC (updC mo 0 (updZ (updZ (mo 0) 0 0) 6 (nn + 1))) 2 f1_113)) H112 := hw_0
            show V p l e (rmL 3 0 0) s m args below meth cd Q 4 H112 lo112 0 0 122 [(3, .int (zI (i : Int))), (0, .ref b), (1, .int (zI k)), (2, .int (zI (co 3 k)))] []
            replace hp_f_114 : LT f1_113 (nn + 1) ((lnT co k i) ++ [32]) := hp_f_114
            refine v_aload_n X dX10_formatCase_122 123 rfl 1 rfl ?_
            refine v_aload_n X dX10_formatCase_123 124 rfl 1 rfl ?_
            refine v_iload_n X dX10_formatCase_124 125 rfl 2 rfl ?_
            refine v_iload_n X dX10_formatCase_125 126 rfl 0 rfl ?_
            refine v_iconst X dX10_formatCase_126 127 rfl ?_
            refine v_rdV X hM.C h_mo.1 (c_X10_t_1 l E b (updC (updC mo 0 (updZ (updZ (mo 0) 0 0) 6 (nn + 1))) 2 f1_113) co k (i : Int) hO hR (by omega) (by omega) (by omega) (by omega)) kvX10_t kiX10_t kl_X10_51 rfl rfl (As := [.int (zI k), .int (zI (i : Int)), .int (zI 1)]) rfl rfl rfl dX10_formatCase_127 130 rfl ?_
            show V p l e (rmL 3 0 0) s m args below meth cd Q 4 H112 lo112 0 0 130 [(3, .int (zI (i : Int))), (0, .ref b), (1, .int (zI k)), (2, .int (zI (co 3 k)))] [.int (zI ((sdC co k (i : Int) + 1) / 2)), .ref b]
            refine v_iconst X dX10_formatCase_130 131 rfl ?_
            refine v_icmp_ne X (by omega) (by omega) dX10_formatCase_131 134 139 rfl (by decide) (fun c_115 => ?_) (fun c_115 => ?_)
            · skip
              refine v_bipush X dX10_formatCase_139 141 rfl rfl ?_
              refine v_muV X hM (h_mo.1) (c_X10_writes l E b (updC (updC mo 0 (updZ (updZ (mo 0) 0 0) 6 (nn + 1))) 2 f1_113) 45 ((lnT co k i) ++ [32]) (show 0 ≤ (nn + 1) from (by omega)) (show (nn + 1) < 60 from (by omega)) (by omega) (by omega) hp_f_114) kvX10_writes kiX10_writes kl_X10_163 (q0 := 0) rfl rfl (As := [.int (zI 45)]) rfl rfl rfl dX10_formatCase_141 144 rfl (k' := 0) (n' := 0) rfl rfl (fsI (fun q q1 q2 => (Or.inl (fsH (by omega) (by omega))))) h_mo (fun rv H116 lo116 hM hF hpo => ?_)
              obtain ⟨f1_117, rfl, hp_f_118, hw_0⟩ := hpo
              have h_mo : PR E b (modelW E b (updC (updC mo 0 (updZ (updZ (mo 0) 0 0) 6 ((nn + 1) + 1))) 2 f1_117)) H116 := hw_0
              show V p l e (rmL 3 0 0) s m args below meth cd Q 4 H116 lo116 0 0 144 [(3, .int (zI (i : Int))), (0, .ref b), (1, .int (zI k)), (2, .int (zI (co 3 k)))] []
              replace hp_f_118 : LT f1_117 ((nn + 1) + 1) (((lnT co k i) ++ [32]) ++ [45]) := hp_f_118
              refine v_aload_n X dX10_formatCase_144 145 rfl 1 rfl ?_
              refine v_aload_n X dX10_formatCase_145 146 rfl 1 rfl ?_
              refine v_iload_n X dX10_formatCase_146 147 rfl 2 rfl ?_
              refine v_iload_n X dX10_formatCase_147 148 rfl 0 rfl ?_
              refine v_iconst X dX10_formatCase_148 149 rfl ?_
              refine v_rdV X hM.C h_mo.1 (c_X10_t_0 l E b (updC (updC mo 0 (updZ (updZ (mo 0) 0 0) 6 ((nn + 1) + 1))) 2 f1_117) co k (i : Int) hO hR (by omega) (by omega) (by omega) (by omega)) kvX10_t kiX10_t kl_X10_51 rfl rfl (As := [.int (zI k), .int (zI (i : Int)), .int (zI 0)]) rfl rfl rfl dX10_formatCase_149 152 rfl ?_
              show V p l e (rmL 3 0 0) s m args below meth cd Q 4 H116 lo116 0 0 152 [(3, .int (zI (i : Int))), (0, .ref b), (1, .int (zI k)), (2, .int (zI (co 3 k)))] [.int (zI (co 7 (k * 6 + (i : Int)))), .ref b]
              have hb_119 := hO.b7 (k * 6 + (i : Int))
              refine v_muV X hM (h_mo.1) (c_X10_writesNumber_1 l E b (updC (updC mo 0 (updZ (updZ (mo 0) 0 0) 6 ((nn + 1) + 1))) 2 f1_117) (co 7 (k * 6 + (i : Int))) (((lnT co k i) ++ [32]) ++ [45]) (by omega) (by omega) (show 0 ≤ ((nn + 1) + 1) from (by omega)) (show ((nn + 1) + 1) < 60 from (by omega)) hp_f_118) kvX10_writesNumber kiX10_writesNumber kl_X10_159 (q0 := 0) rfl rfl (As := [.int (zI (co 7 (k * 6 + (i : Int))))]) rfl rfl rfl dX10_formatCase_152 155 rfl (k' := 0) (n' := 0) rfl rfl (fsI (fun q q1 q2 => (Or.inl (fsH (by omega) (by omega))))) h_mo (fun rv H120 lo120 hM hF hpo => ?_)
              obtain ⟨f1_121, rfl, hp_f_122, hw_0⟩ := hpo
              have h_mo : PR E b (modelW E b (updC (updC mo 0 (updZ (updZ (mo 0) 0 0) 6 (((nn + 1) + 1) + 1))) 2 f1_121)) H120 := hw_0
              show V p l e (rmL 3 0 0) s m args below meth cd Q 4 H120 lo120 0 0 155 [(3, .int (zI (i : Int))), (0, .ref b), (1, .int (zI k)), (2, .int (zI (co 3 k)))] []
              replace hp_f_122 : LT f1_121 (((nn + 1) + 1) + 1) ((((lnT co k i) ++ [32]) ++ [45]) ++ [48 + (co 7 (k * 6 + (i : Int)))]) := hp_f_122
              refine v_aload_n X dX10_formatCase_155 156 rfl 1 rfl ?_
              refine v_bipush X dX10_formatCase_156 158 rfl rfl ?_
              refine v_muV X hM (h_mo.1) (c_X10_writes l E b (updC (updC mo 0 (updZ (updZ (mo 0) 0 0) 6 (((nn + 1) + 1) + 1))) 2 f1_121) 42 ((((lnT co k i) ++ [32]) ++ [45]) ++ [48 + (co 7 (k * 6 + (i : Int)))]) (show 0 ≤ (((nn + 1) + 1) + 1) from (by omega)) (show (((nn + 1) + 1) + 1) < 60 from (by omega)) (by omega) (by omega) hp_f_122) kvX10_writes kiX10_writes kl_X10_163 (q0 := 0) rfl rfl (As := [.int (zI 42)]) rfl rfl rfl dX10_formatCase_158 161 rfl (k' := 0) (n' := 0) rfl rfl (fsI (fun q q1 q2 => (Or.inl (fsH (by omega) (by omega))))) h_mo (fun rv H123 lo123 hM hF hpo => ?_)
              obtain ⟨f1_124, rfl, hp_f_125, hw_0⟩ := hpo
              have h_mo : PR E b (modelW E b (updC (updC mo 0 (updZ (updZ (mo 0) 0 0) 6 ((((nn + 1) + 1) + 1) + 1))) 2 f1_124)) H123 := hw_0
              show V p l e (rmL 3 0 0) s m args below meth cd Q 4 H123 lo123 0 0 161 [(3, .int (zI (i : Int))), (0, .ref b), (1, .int (zI k)), (2, .int (zI (co 3 k)))] []
              replace hp_f_125 : LT f1_124 ((((nn + 1) + 1) + 1) + 1) (((((lnT co k i) ++ [32]) ++ [45]) ++ [48 + (co 7 (k * 6 + (i : Int)))]) ++ [42]) := hp_f_125
              refine v_aload_n X dX10_formatCase_161 162 rfl 1 rfl ?_
              refine v_aload_n X dX10_formatCase_162 163 rfl 1 rfl ?_
              refine v_iload_n X dX10_formatCase_163 164 rfl 2 rfl ?_
              refine v_iload_n X dX10_formatCase_164 165 rfl 0 rfl ?_
              refine v_iconst X dX10_formatCase_165 166 rfl ?_
              refine v_rdV X hM.C h_mo.1 (c_X10_t_2 l E b (updC (updC mo 0 (updZ (updZ (mo 0) 0 0) 6 ((((nn + 1) + 1) + 1) + 1))) 2 f1_124) co k (i : Int) hO hR (by omega) (by omega) (by omega) (by omega)) kvX10_t kiX10_t kl_X10_51 rfl rfl (As := [.int (zI k), .int (zI (i : Int)), .int (zI 2)]) rfl rfl rfl dX10_formatCase_166 169 rfl ?_
              show V p l e (rmL 3 0 0) s m args below meth cd Q 4 H123 lo123 0 0 169 [(3, .int (zI (i : Int))), (0, .ref b), (1, .int (zI k)), (2, .int (zI (co 3 k)))] [.int (zI (co 9 (k * 8 + co 7 (k * 6 + (i : Int))))), .ref b]
              have hb_126 := hO.b9 (k * 8 + co 7 (k * 6 + (i : Int)))
              refine v_muV X hM (h_mo.1) (c_X10_writesNumber_1 l E b (updC (updC mo 0 (updZ (updZ (mo 0) 0 0) 6 ((((nn + 1) + 1) + 1) + 1))) 2 f1_124) (co 9 (k * 8 + co 7 (k * 6 + (i : Int)))) (((((lnT co k i) ++ [32]) ++ [45]) ++ [48 + (co 7 (k * 6 + (i : Int)))]) ++ [42]) (by omega) (by omega) (show 0 ≤ ((((nn + 1) + 1) + 1) + 1) from (by omega)) (show ((((nn + 1) + 1) + 1) + 1) < 60 from (by omega)) hp_f_125) kvX10_writesNumber kiX10_writesNumber kl_X10_159 (q0 := 0) rfl rfl (As := [.int (zI (co 9 (k * 8 + co 7 (k * 6 + (i : Int)))))]) rfl rfl rfl dX10_formatCase_169 172 rfl (k' := 0) (n' := 0) rfl rfl (fsI (fun q q1 q2 => (Or.inl (fsH (by omega) (by omega))))) h_mo (fun rv H127 lo127 hM hF hpo => ?_)
              obtain ⟨f1_128, rfl, hp_f_129, hw_0⟩ := hpo
              have h_mo : PR E b (modelW E b (updC (updC mo 0 (updZ (updZ (mo 0) 0 0) 6 (((((nn + 1) + 1) + 1) + 1) + 1))) 2 f1_128)) H127 := hw_0
              show V p l e (rmL 3 0 0) s m args below meth cd Q 4 H127 lo127 0 0 172 [(3, .int (zI (i : Int))), (0, .ref b), (1, .int (zI k)), (2, .int (zI (co 3 k)))] []
              replace hp_f_129 : LT f1_128 (((((nn + 1) + 1) + 1) + 1) + 1) ((((((lnT co k i) ++ [32]) ++ [45]) ++ [48 + (co 7 (k * 6 + (i : Int)))]) ++ [42]) ++ [48 + (co 9 (k * 8 + co 7 (k * 6 + (i : Int))))]) := hp_f_129
              refine v_iinc X dX10_formatCase_172 175 rfl 0 rfl (by decide) (L' := [(3, .int (zI ((i : Int) + 1))), (0, .ref b), (1, .int (zI k)), (2, .int (zI (co 3 k)))]) rfl ?_
              refine v_goto X dX10_formatCase_175 106 (by decide) ?_
              exact V_L (L' := [(3, .int (zI ((i + 1 : Nat) : Int))), (0, .ref b), (1, .int (zI k)), (2, .int (zI (co 3 k)))]) (LC (vz (by omega)) (LC rfl (LC rfl (LC rfl rfl)))) (ih_i (by omega) f1_128 (((((nn + 1) + 1) + 1) + 1) + 1) (by rw [show lnT co k (i + 1) = (((((lnT co k i) ++ [32]) ++ [45]) ++ [48 + (co 7 (k * 6 + (i : Int)))]) ++ [42]) ++ [48 + (co 9 (k * 8 + co 7 (k * 6 + (i : Int))))] by (have e1 : sgT co k (co 7 (k * 6 + (i : Int))) = 45 := by (unfold sgT; unfold sdC at *; rw [if_neg (by omega)])); (show tsT (lnT co k i) co k (co 7 (k * 6 + (i : Int))) = _); rw [tsT, e1]]; exact hp_f_129) (by omega) _ _ hM h_mo)
            · skip
              refine v_bipush X dX10_formatCase_134 136 rfl rfl ?_
              refine v_goto X dX10_formatCase_136 141 (by decide) ?_
              refine v_muV X hM (h_mo.1) (c_X10_writes l E b (updC (updC mo 0 (updZ (updZ (mo 0) 0 0) 6 (nn + 1))) 2 f1_113) 43 ((lnT co k i) ++ [32]) (show 0 ≤ (nn + 1) from (by omega)) (show (nn + 1) < 60 from (by omega)) (by omega) (by omega) hp_f_114) kvX10_writes kiX10_writes kl_X10_163 (q0 := 0) rfl rfl (As := [.int (zI 43)]) rfl rfl rfl dX10_formatCase_141 144 rfl (k' := 0) (n' := 0) rfl rfl (fsI (fun q q1 q2 => (Or.inl (fsH (by omega) (by omega))))) h_mo (fun rv H130 lo130 hM hF hpo => ?_)
              obtain ⟨f1_131, rfl, hp_f_132, hw_0⟩ := hpo
              have h_mo : PR E b (modelW E b (updC (updC mo 0 (updZ (updZ (mo 0) 0 0) 6 ((nn + 1) + 1))) 2 f1_131)) H130 := hw_0
              show V p l e (rmL 3 0 0) s m args below meth cd Q 4 H130 lo130 0 0 144 [(3, .int (zI (i : Int))), (0, .ref b), (1, .int (zI k)), (2, .int (zI (co 3 k)))] []
              replace hp_f_132 : LT f1_131 ((nn + 1) + 1) (((lnT co k i) ++ [32]) ++ [43]) := hp_f_132
              refine v_aload_n X dX10_formatCase_144 145 rfl 1 rfl ?_
              refine v_aload_n X dX10_formatCase_145 146 rfl 1 rfl ?_
              refine v_iload_n X dX10_formatCase_146 147 rfl 2 rfl ?_
              refine v_iload_n X dX10_formatCase_147 148 rfl 0 rfl ?_
              refine v_iconst X dX10_formatCase_148 149 rfl ?_
              refine v_rdV X hM.C h_mo.1 (c_X10_t_0 l E b (updC (updC mo 0 (updZ (updZ (mo 0) 0 0) 6 ((nn + 1) + 1))) 2 f1_131) co k (i : Int) hO hR (by omega) (by omega) (by omega) (by omega)) kvX10_t kiX10_t kl_X10_51 rfl rfl (As := [.int (zI k), .int (zI (i : Int)), .int (zI 0)]) rfl rfl rfl dX10_formatCase_149 152 rfl ?_
              show V p l e (rmL 3 0 0) s m args below meth cd Q 4 H130 lo130 0 0 152 [(3, .int (zI (i : Int))), (0, .ref b), (1, .int (zI k)), (2, .int (zI (co 3 k)))] [.int (zI (co 7 (k * 6 + (i : Int)))), .ref b]
              have hb_133 := hO.b7 (k * 6 + (i : Int))
              refine v_muV X hM (h_mo.1) (c_X10_writesNumber_1 l E b (updC (updC mo 0 (updZ (updZ (mo 0) 0 0) 6 ((nn + 1) + 1))) 2 f1_131) (co 7 (k * 6 + (i : Int))) (((lnT co k i) ++ [32]) ++ [43]) (by omega) (by omega) (show 0 ≤ ((nn + 1) + 1) from (by omega)) (show ((nn + 1) + 1) < 60 from (by omega)) hp_f_132) kvX10_writesNumber kiX10_writesNumber kl_X10_159 (q0 := 0) rfl rfl (As := [.int (zI (co 7 (k * 6 + (i : Int))))]) rfl rfl rfl dX10_formatCase_152 155 rfl (k' := 0) (n' := 0) rfl rfl (fsI (fun q q1 q2 => (Or.inl (fsH (by omega) (by omega))))) h_mo (fun rv H134 lo134 hM hF hpo => ?_)
              obtain ⟨f1_135, rfl, hp_f_136, hw_0⟩ := hpo
              have h_mo : PR E b (modelW E b (updC (updC mo 0 (updZ (updZ (mo 0) 0 0) 6 (((nn + 1) + 1) + 1))) 2 f1_135)) H134 := hw_0
              show V p l e (rmL 3 0 0) s m args below meth cd Q 4 H134 lo134 0 0 155 [(3, .int (zI (i : Int))), (0, .ref b), (1, .int (zI k)), (2, .int (zI (co 3 k)))] []
              replace hp_f_136 : LT f1_135 (((nn + 1) + 1) + 1) ((((lnT co k i) ++ [32]) ++ [43]) ++ [48 + (co 7 (k * 6 + (i : Int)))]) := hp_f_136
              refine v_aload_n X dX10_formatCase_155 156 rfl 1 rfl ?_
              refine v_bipush X dX10_formatCase_156 158 rfl rfl ?_
              refine v_muV X hM (h_mo.1) (c_X10_writes l E b (updC (updC mo 0 (updZ (updZ (mo 0) 0 0) 6 (((nn + 1) + 1) + 1))) 2 f1_135) 42 ((((lnT co k i) ++ [32]) ++ [43]) ++ [48 + (co 7 (k * 6 + (i : Int)))]) (show 0 ≤ (((nn + 1) + 1) + 1) from (by omega)) (show (((nn + 1) + 1) + 1) < 60 from (by omega)) (by omega) (by omega) hp_f_136) kvX10_writes kiX10_writes kl_X10_163 (q0 := 0) rfl rfl (As := [.int (zI 42)]) rfl rfl rfl dX10_formatCase_158 161 rfl (k' := 0) (n' := 0) rfl rfl (fsI (fun q q1 q2 => (Or.inl (fsH (by omega) (by omega))))) h_mo (fun rv H137 lo137 hM hF hpo => ?_)
              obtain ⟨f1_138, rfl, hp_f_139, hw_0⟩ := hpo
              have h_mo : PR E b (modelW E b (updC (updC mo 0 (updZ (updZ (mo 0) 0 0) 6 ((((nn + 1) + 1) + 1) + 1))) 2 f1_138)) H137 := hw_0
              show V p l e (rmL 3 0 0) s m args below meth cd Q 4 H137 lo137 0 0 161 [(3, .int (zI (i : Int))), (0, .ref b), (1, .int (zI k)), (2, .int (zI (co 3 k)))] []
              replace hp_f_139 : LT f1_138 ((((nn + 1) + 1) + 1) + 1) (((((lnT co k i) ++ [32]) ++ [43]) ++ [48 + (co 7 (k * 6 + (i : Int)))]) ++ [42]) := hp_f_139
              refine v_aload_n X dX10_formatCase_161 162 rfl 1 rfl ?_
              refine v_aload_n X dX10_formatCase_162 163 rfl 1 rfl ?_
              refine v_iload_n X dX10_formatCase_163 164 rfl 2 rfl ?_
              refine v_iload_n X dX10_formatCase_164 165 rfl 0 rfl ?_
              refine v_iconst X dX10_formatCase_165 166 rfl ?_
              refine v_rdV X hM.C h_mo.1 (c_X10_t_2 l E b (updC (updC mo 0 (updZ (updZ (mo 0) 0 0) 6 ((((nn + 1) + 1) + 1) + 1))) 2 f1_138) co k (i : Int) hO hR (by omega) (by omega) (by omega) (by omega)) kvX10_t kiX10_t kl_X10_51 rfl rfl (As := [.int (zI k), .int (zI (i : Int)), .int (zI 2)]) rfl rfl rfl dX10_formatCase_166 169 rfl ?_
              show V p l e (rmL 3 0 0) s m args below meth cd Q 4 H137 lo137 0 0 169 [(3, .int (zI (i : Int))), (0, .ref b), (1, .int (zI k)), (2, .int (zI (co 3 k)))] [.int (zI (co 9 (k * 8 + co 7 (k * 6 + (i : Int))))), .ref b]
              have hb_140 := hO.b9 (k * 8 + co 7 (k * 6 + (i : Int)))
              refine v_muV X hM (h_mo.1) (c_X10_writesNumber_1 l E b (updC (updC mo 0 (updZ (updZ (mo 0) 0 0) 6 ((((nn + 1) + 1) + 1) + 1))) 2 f1_138) (co 9 (k * 8 + co 7 (k * 6 + (i : Int)))) (((((lnT co k i) ++ [32]) ++ [43]) ++ [48 + (co 7 (k * 6 + (i : Int)))]) ++ [42]) (by omega) (by omega) (show 0 ≤ ((((nn + 1) + 1) + 1) + 1) from (by omega)) (show ((((nn + 1) + 1) + 1) + 1) < 60 from (by omega)) hp_f_139) kvX10_writesNumber kiX10_writesNumber kl_X10_159 (q0 := 0) rfl rfl (As := [.int (zI (co 9 (k * 8 + co 7 (k * 6 + (i : Int)))))]) rfl rfl rfl dX10_formatCase_169 172 rfl (k' := 0) (n' := 0) rfl rfl (fsI (fun q q1 q2 => (Or.inl (fsH (by omega) (by omega))))) h_mo (fun rv H141 lo141 hM hF hpo => ?_)
              obtain ⟨f1_142, rfl, hp_f_143, hw_0⟩ := hpo
              have h_mo : PR E b (modelW E b (updC (updC mo 0 (updZ (updZ (mo 0) 0 0) 6 (((((nn + 1) + 1) + 1) + 1) + 1))) 2 f1_142)) H141 := hw_0
              show V p l e (rmL 3 0 0) s m args below meth cd Q 4 H141 lo141 0 0 172 [(3, .int (zI (i : Int))), (0, .ref b), (1, .int (zI k)), (2, .int (zI (co 3 k)))] []
              replace hp_f_143 : LT f1_142 (((((nn + 1) + 1) + 1) + 1) + 1) ((((((lnT co k i) ++ [32]) ++ [43]) ++ [48 + (co 7 (k * 6 + (i : Int)))]) ++ [42]) ++ [48 + (co 9 (k * 8 + co 7 (k * 6 + (i : Int))))]) := hp_f_143
              refine v_iinc X dX10_formatCase_172 175 rfl 0 rfl (by decide) (L' := [(3, .int (zI ((i : Int) + 1))), (0, .ref b), (1, .int (zI k)), (2, .int (zI (co 3 k)))]) rfl ?_
              refine v_goto X dX10_formatCase_175 106 (by decide) ?_
              exact V_L (L' := [(3, .int (zI ((i + 1 : Nat) : Int))), (0, .ref b), (1, .int (zI k)), (2, .int (zI (co 3 k)))]) (LC (vz (by omega)) (LC rfl (LC rfl (LC rfl rfl)))) (ih_i (by omega) f1_142 (((((nn + 1) + 1) + 1) + 1) + 1) (by rw [show lnT co k (i + 1) = (((((lnT co k i) ++ [32]) ++ [43]) ++ [48 + (co 7 (k * 6 + (i : Int)))]) ++ [42]) ++ [48 + (co 9 (k * 8 + co 7 (k * 6 + (i : Int))))] by (have e1 : sgT co k (co 7 (k * 6 + (i : Int))) = 43 := by (unfold sgT; unfold sdC at *; rw [if_pos (by omega)])); (show tsT (lnT co k i) co k (co 7 (k * 6 + (i : Int))) = _); rw [tsT, e1]]; exact hp_f_143) (by omega) _ _ hM h_mo)
        · skip
          refine v_aload_n X dX10_formatCase_98 99 rfl 1 rfl ?_
          refine v_bipush X dX10_formatCase_99 101 rfl rfl ?_
          refine v_muV X hM (h_mo.1) (c_X10_writes l E b (updC (updC mo 0 (updZ (updZ (mo 0) 0 0) 6 (((((n1_8 + 1) + 1) + 1) + 1) + 1))) 2 f1_106) 46 (((((([] ++ nmT k) ++ [58]) ++ [48 + (co 1 k)]) ++ [47]) ++ [48 + (co 2 k)]) ++ [103]) (show 0 ≤ (((((n1_8 + 1) + 1) + 1) + 1) + 1) from (by omega)) (show (((((n1_8 + 1) + 1) + 1) + 1) + 1) < 60 from (by omega)) (by omega) (by omega) hp_f_107) kvX10_writes kiX10_writes kl_X10_163 (q0 := 0) rfl rfl (As := [.int (zI 46)]) rfl rfl rfl dX10_formatCase_101 104 rfl (k' := 0) (n' := 0) rfl rfl (fsI (fun q q1 q2 => (Or.inl (fsH (by omega) (by omega))))) h_mo (fun rv H144 lo144 hM hF hpo => ?_)
          obtain ⟨f1_145, rfl, hp_f_146, hw_0⟩ := hpo
          have h_mo : PR E b (modelW E b (updC (updC mo 0 (updZ (updZ (mo 0) 0 0) 6 ((((((n1_8 + 1) + 1) + 1) + 1) + 1) + 1))) 2 f1_145)) H144 := hw_0
          show V p l e (rmL 3 0 0) s m args below meth cd Q 4 H144 lo144 0 0 104 [(2, .int (zI (co 3 k))), (0, .ref b), (1, .int (zI k))] []
          replace hp_f_146 : LT f1_145 ((((((n1_8 + 1) + 1) + 1) + 1) + 1) + 1) ((((((([] ++ nmT k) ++ [58]) ++ [48 + (co 1 k)]) ++ [47]) ++ [48 + (co 2 k)]) ++ [103]) ++ [46]) := hp_f_146
          refine v_iconst X dX10_formatCase_104 105 rfl ?_
          refine v_istore_n X dX10_formatCase_105 106 rfl rfl (by decide) (L' := [(3, .int (zI 0)), (2, .int (zI (co 3 k))), (0, .ref b), (1, .int (zI k))]) rfl ?_
          refine v_locals [0, 2, 3, 1] (L' := [(3, .int (zI 0)), (0, .ref b), (1, .int (zI k)), (2, .int (zI (co 3 k)))]) rfl ?_
          refine V_L (L' := [(3, .int (zI 0)), (0, .ref b), (1, .int (zI k)), (2, .int (zI (co 3 k)))]) (LC (vz (by rfl)) (LC rfl (LC rfl (LC rfl rfl)))) ?_
          refine up_loop ((co 6 k).toNat) (P := fun (i : Nat) => ∀ (ff : Int → Int), ∀ (nn : Int), (LT ff nn (lnT co k i)) → (0 ≤ nn ∧ nn ≤ 8 + 5 * (i : Int)) → ∀ (H : Heap) (lo : List Loc), MS E [(b, 5)] s H lo → PR E b (modelW E b (updC (updC mo 0 (updZ (updZ (mo 0) 0 0) 6 nn)) 2 ff)) H → V p l e (rmL 3 0 0) s m args below meth cd Q 4 H lo 0 0 106 [(3, .int (zI (i : Int))), (0, .ref b), (1, .int (zI k)), (2, .int (zI (co 3 k)))] []) (fun i hi_i ih_i ff nn hLT hnn H147 lo147 hM h_mo => ?_) f1_145 ((((((n1_8 + 1) + 1) + 1) + 1) + 1) + 1) (by rw [show lnT co k 0 = (((((([] ++ nmT k) ++ [58]) ++ [48 + (co 1 k)]) ++ [47]) ++ [48 + (co 2 k)]) ++ [103]) ++ [46] by (have e1 : phT co k = 103 := by (unfold phT; first | rw [if_pos (by omega)] | rw [if_neg (by omega), if_pos (by omega)] | rw [if_neg (by omega), if_neg (by omega)])); (have e2 : clT co k = [46] := by (unfold clT; rw [if_pos (by omega)])); (show hdT co k = _); rw [hdT, e1, e2] <;> rfl]; exact hp_f_146) (by omega) _ _ hM h_mo
          refine v_iload_n X dX10_formatCase_106 107 rfl 0 rfl ?_
          refine v_aload_n X dX10_formatCase_107 108 rfl 1 rfl ?_
          refine v_iload_n X dX10_formatCase_108 109 rfl 2 rfl ?_
          refine v_iconst X dX10_formatCase_109 110 rfl ?_
          refine v_rdV X hM.C h_mo.1 (c_X10_c_5 l E b (updC (updC mo 0 (updZ (updZ (mo 0) 0 0) 6 nn)) 2 ff) co k hO hR (by omega) (by omega)) kvX10_c kiX10_c kl_X10_47 rfl rfl (As := [.int (zI k), .int (zI 5)]) rfl rfl rfl dX10_formatCase_110 113 rfl ?_
          show V p l e (rmL 3 0 0) s m args below meth cd Q 4 H147 lo147 0 0 113 [(3, .int (zI (i : Int))), (0, .ref b), (1, .int (zI k)), (2, .int (zI (co 3 k)))] [.int (zI (co 6 k)), .int (zI (i : Int))]
          have hb_148 := hO.b6 k
          refine v_icmp_ge X (by omega) (by omega) dX10_formatCase_113 116 178 rfl (by decide) (fun c_149 => ?_) (fun c_149 => ?_)
          · skip
            refine v_aload_n X dX10_formatCase_178 179 rfl 1 rfl ?_
            refine v_getf X hM.C h_mo.1 inX10 0 rfl rfl 6 (by decide) kf_X10_156 (fun _ h => h) rfl dX10_formatCase_179 182 rfl ?_
            show V p l e (rmL 3 0 0) s m args below meth cd Q 4 H147 lo147 0 0 182 [(3, .int (zI (i : Int))), (0, .ref b), (1, .int (zI k)), (2, .int (zI (co 3 k)))] [.int (zI nn)]
            subst hQ; exact m_iret X hr hlk hM dX10_formatCase_182 rfl ⟨ff, nn, (sv (by omega)), (by rw [show (co 6 k).toNat = i by omega]; exact hLT), (by omega), h_mo⟩
          · skip
            have hsd := hI.sd (j := (i : Int)) (k := k) (by omega) (by omega) (by omega) (by omega)
            have hb7 := hO.b7 (k * 6 + (i : Int))
            refine v_aload_n X dX10_formatCase_116 117 rfl 1 rfl ?_
            refine v_bipush X dX10_formatCase_117 119 rfl rfl ?_
            refine v_muV X hM (h_mo.1) (c_X10_writes l E b (updC (updC mo 0 (updZ (updZ (mo 0) 0 0) 6 nn)) 2 ff) 32 (lnT co k i) (show 0 ≤ nn from (by omega)) (show nn < 60 from (by omega)) (by omega) (by omega) hLT) kvX10_writes kiX10_writes kl_X10_163 (q0 := 0) rfl rfl (As := [.int (zI 32)]) rfl rfl rfl dX10_formatCase_119 122 rfl (k' := 0) (n' := 0) rfl rfl (fsI (fun q q1 q2 => (Or.inl (fsH (by omega) (by omega))))) h_mo (fun rv H150 lo150 hM hF hpo => ?_)
            obtain ⟨f1_151, rfl, hp_f_152, hw_0⟩ := hpo
            have h_mo : PR E b (modelW E b (updC (updC mo 0 (updZ (updZ (mo 0) 0 0) 6 (nn + 1))) 2 f1_151)) H150 := hw_0
            show V p l e (rmL 3 0 0) s m args below meth cd Q 4 H150 lo150 0 0 122 [(3, .int (zI (i : Int))), (0, .ref b), (1, .int (zI k)), (2, .int (zI (co 3 k)))] []
            replace hp_f_152 : LT f1_151 (nn + 1) ((lnT co k i) ++ [32]) := hp_f_152
            refine v_aload_n X dX10_formatCase_122 123 rfl 1 rfl ?_
            refine v_aload_n X dX10_formatCase_123 124 rfl 1 rfl ?_
            refine v_iload_n X dX10_formatCase_124 125 rfl 2 rfl ?_
            refine v_iload_n X dX10_formatCase_125 126 rfl 0 rfl ?_
            refine v_iconst X dX10_formatCase_126 127 rfl ?_
            refine v_rdV X hM.C h_mo.1 (c_X10_t_1 l E b (updC (updC mo 0 (updZ (updZ (mo 0) 0 0) 6 (nn + 1))) 2 f1_151) co k (i : Int) hO hR (by omega) (by omega) (by omega) (by omega)) kvX10_t kiX10_t kl_X10_51 rfl rfl (As := [.int (zI k), .int (zI (i : Int)), .int (zI 1)]) rfl rfl rfl dX10_formatCase_127 130 rfl ?_
            show V p l e (rmL 3 0 0) s m args below meth cd Q 4 H150 lo150 0 0 130 [(3, .int (zI (i : Int))), (0, .ref b), (1, .int (zI k)), (2, .int (zI (co 3 k)))] [.int (zI ((sdC co k (i : Int) + 1) / 2)), .ref b]
            refine v_iconst X dX10_formatCase_130 131 rfl ?_
            refine v_icmp_ne X (by omega) (by omega) dX10_formatCase_131 134 139 rfl (by decide) (fun c_153 => ?_) (fun c_153 => ?_)
            · skip
              refine v_bipush X dX10_formatCase_139 141 rfl rfl ?_
              refine v_muV X hM (h_mo.1) (c_X10_writes l E b (updC (updC mo 0 (updZ (updZ (mo 0) 0 0) 6 (nn + 1))) 2 f1_151) 45 ((lnT co k i) ++ [32]) (show 0 ≤ (nn + 1) from (by omega)) (show (nn + 1) < 60 from (by omega)) (by omega) (by omega) hp_f_152) kvX10_writes kiX10_writes kl_X10_163 (q0 := 0) rfl rfl (As := [.int (zI 45)]) rfl rfl rfl dX10_formatCase_141 144 rfl (k' := 0) (n' := 0) rfl rfl (fsI (fun q q1 q2 => (Or.inl (fsH (by omega) (by omega))))) h_mo (fun rv H154 lo154 hM hF hpo => ?_)
              obtain ⟨f1_155, rfl, hp_f_156, hw_0⟩ := hpo
              have h_mo : PR E b (modelW E b (updC (updC mo 0 (updZ (updZ (mo 0) 0 0) 6 ((nn + 1) + 1))) 2 f1_155)) H154 := hw_0
              show V p l e (rmL 3 0 0) s m args below meth cd Q 4 H154 lo154 0 0 144 [(3, .int (zI (i : Int))), (0, .ref b), (1, .int (zI k)), (2, .int (zI (co 3 k)))] []
              replace hp_f_156 : LT f1_155 ((nn + 1) + 1) (((lnT co k i) ++ [32]) ++ [45]) := hp_f_156
              refine v_aload_n X dX10_formatCase_144 145 rfl 1 rfl ?_
              refine v_aload_n X dX10_formatCase_145 146 rfl 1 rfl ?_
              refine v_iload_n X dX10_formatCase_146 147 rfl 2 rfl ?_
              refine v_iload_n X dX10_formatCase_147 148 rfl 0 rfl ?_
              refine v_iconst X dX10_formatCase_148 149 rfl ?_
              refine v_rdV X hM.C h_mo.1 (c_X10_t_0 l E b (updC (updC mo 0 (updZ (updZ (mo 0) 0 0) 6 ((nn + 1) + 1))) 2 f1_155) co k (i : Int) hO hR (by omega) (by omega) (by omega) (by omega)) kvX10_t kiX10_t kl_X10_51 rfl rfl (As := [.int (zI k), .int (zI (i : Int)), .int (zI 0)]) rfl rfl rfl dX10_formatCase_149 152 rfl ?_
              show V p l e (rmL 3 0 0) s m args below meth cd Q 4 H154 lo154 0 0 152 [(3, .int (zI (i : Int))), (0, .ref b), (1, .int (zI k)), (2, .int (zI (co 3 k)))] [.int (zI (co 7 (k * 6 + (i : Int)))), .ref b]
              have hb_157 := hO.b7 (k * 6 + (i : Int))
              refine v_muV X hM (h_mo.1) (c_X10_writesNumber_1 l E b (updC (updC mo 0 (updZ (updZ (mo 0) 0 0) 6 ((nn + 1) + 1))) 2 f1_155) (co 7 (k * 6 + (i : Int))) (((lnT co k i) ++ [32]) ++ [45]) (by omega) (by omega) (show 0 ≤ ((nn + 1) + 1) from (by omega)) (show ((nn + 1) + 1) < 60 from (by omega)) hp_f_156) kvX10_writesNumber kiX10_writesNumber kl_X10_159 (q0 := 0) rfl rfl (As := [.int (zI (co 7 (k * 6 + (i : Int))))]) rfl rfl rfl dX10_formatCase_152 155 rfl (k' := 0) (n' := 0) rfl rfl (fsI (fun q q1 q2 => (Or.inl (fsH (by omega) (by omega))))) h_mo (fun rv H158 lo158 hM hF hpo => ?_)
              obtain ⟨f1_159, rfl, hp_f_160, hw_0⟩ := hpo
              have h_mo : PR E b (modelW E b (updC (updC mo 0 (updZ (updZ (mo 0) 0 0) 6 (((nn + 1) + 1) + 1))) 2 f1_159)) H158 := hw_0
              show V p l e (rmL 3 0 0) s m args below meth cd Q 4 H158 lo158 0 0 155 [(3, .int (zI (i : Int))), (0, .ref b), (1, .int (zI k)), (2, .int (zI (co 3 k)))] []
              replace hp_f_160 : LT f1_159 (((nn + 1) + 1) + 1) ((((lnT co k i) ++ [32]) ++ [45]) ++ [48 + (co 7 (k * 6 + (i : Int)))]) := hp_f_160
              refine v_aload_n X dX10_formatCase_155 156 rfl 1 rfl ?_
              refine v_bipush X dX10_formatCase_156 158 rfl rfl ?_
              refine v_muV X hM (h_mo.1) (c_X10_writes l E b (updC (updC mo 0 (updZ (updZ (mo 0) 0 0) 6 (((nn + 1) + 1) + 1))) 2 f1_159) 42 ((((lnT co k i) ++ [32]) ++ [45]) ++ [48 + (co 7 (k * 6 + (i : Int)))]) (show 0 ≤ (((nn + 1) + 1) + 1) from (by omega)) (show (((nn + 1) + 1) + 1) < 60 from (by omega)) (by omega) (by omega) hp_f_160) kvX10_writes kiX10_writes kl_X10_163 (q0 := 0) rfl rfl (As := [.int (zI 42)]) rfl rfl rfl dX10_formatCase_158 161 rfl (k' := 0) (n' := 0) rfl rfl (fsI (fun q q1 q2 => (Or.inl (fsH (by omega) (by omega))))) h_mo (fun rv H161 lo161 hM hF hpo => ?_)
              obtain ⟨f1_162, rfl, hp_f_163, hw_0⟩ := hpo
              have h_mo : PR E b (modelW E b (updC (updC mo 0 (updZ (updZ (mo 0) 0 0) 6 ((((nn + 1) + 1) + 1) + 1))) 2 f1_162)) H161 := hw_0
              show V p l e (rmL 3 0 0) s m args below meth cd Q 4 H161 lo161 0 0 161 [(3, .int (zI (i : Int))), (0, .ref b), (1, .int (zI k)), (2, .int (zI (co 3 k)))] []
              replace hp_f_163 : LT f1_162 ((((nn + 1) + 1) + 1) + 1) (((((lnT co k i) ++ [32]) ++ [45]) ++ [48 + (co 7 (k * 6 + (i : Int)))]) ++ [42]) := hp_f_163
              refine v_aload_n X dX10_formatCase_161 162 rfl 1 rfl ?_
              refine v_aload_n X dX10_formatCase_162 163 rfl 1 rfl ?_
              refine v_iload_n X dX10_formatCase_163 164 rfl 2 rfl ?_
              refine v_iload_n X dX10_formatCase_164 165 rfl 0 rfl ?_
              refine v_iconst X dX10_formatCase_165 166 rfl ?_
              refine v_rdV X hM.C h_mo.1 (c_X10_t_2 l E b (updC (updC mo 0 (updZ (updZ (mo 0) 0 0) 6 ((((nn + 1) + 1) + 1) + 1))) 2 f1_162) co k (i : Int) hO hR (by omega) (by omega) (by omega) (by omega)) kvX10_t kiX10_t kl_X10_51 rfl rfl (As := [.int (zI k), .int (zI (i : Int)), .int (zI 2)]) rfl rfl rfl dX10_formatCase_166 169 rfl ?_
              show V p l e (rmL 3 0 0) s m args below meth cd Q 4 H161 lo161 0 0 169 [(3, .int (zI (i : Int))), (0, .ref b), (1, .int (zI k)), (2, .int (zI (co 3 k)))] [.int (zI (co 9 (k * 8 + co 7 (k * 6 + (i : Int))))), .ref b]
              have hb_164 := hO.b9 (k * 8 + co 7 (k * 6 + (i : Int)))
              refine v_muV X hM (h_mo.1) (c_X10_writesNumber_1 l E b (updC (updC mo 0 (updZ (updZ (mo 0) 0 0) 6 ((((nn + 1) + 1) + 1) + 1))) 2 f1_162) (co 9 (k * 8 + co 7 (k * 6 + (i : Int)))) (((((lnT co k i) ++ [32]) ++ [45]) ++ [48 + (co 7 (k * 6 + (i : Int)))]) ++ [42]) (by omega) (by omega) (show 0 ≤ ((((nn + 1) + 1) + 1) + 1) from (by omega)) (show ((((nn + 1) + 1) + 1) + 1) < 60 from (by omega)) hp_f_163) kvX10_writesNumber kiX10_writesNumber kl_X10_159 (q0 := 0) rfl rfl (As := [.int (zI (co 9 (k * 8 + co 7 (k * 6 + (i : Int)))))]) rfl rfl rfl dX10_formatCase_169 172 rfl (k' := 0) (n' := 0) rfl rfl (fsI (fun q q1 q2 => (Or.inl (fsH (by omega) (by omega))))) h_mo (fun rv H165 lo165 hM hF hpo => ?_)
              obtain ⟨f1_166, rfl, hp_f_167, hw_0⟩ := hpo
              have h_mo : PR E b (modelW E b (updC (updC mo 0 (updZ (updZ (mo 0) 0 0) 6 (((((nn + 1) + 1) + 1) + 1) + 1))) 2 f1_166)) H165 := hw_0
              show V p l e (rmL 3 0 0) s m args below meth cd Q 4 H165 lo165 0 0 172 [(3, .int (zI (i : Int))), (0, .ref b), (1, .int (zI k)), (2, .int (zI (co 3 k)))] []
              replace hp_f_167 : LT f1_166 (((((nn + 1) + 1) + 1) + 1) + 1) ((((((lnT co k i) ++ [32]) ++ [45]) ++ [48 + (co 7 (k * 6 + (i : Int)))]) ++ [42]) ++ [48 + (co 9 (k * 8 + co 7 (k * 6 + (i : Int))))]) := hp_f_167
              refine v_iinc X dX10_formatCase_172 175 rfl 0 rfl (by decide) (L' := [(3, .int (zI ((i : Int) + 1))), (0, .ref b), (1, .int (zI k)), (2, .int (zI (co 3 k)))]) rfl ?_
              refine v_goto X dX10_formatCase_175 106 (by decide) ?_
              exact V_L (L' := [(3, .int (zI ((i + 1 : Nat) : Int))), (0, .ref b), (1, .int (zI k)), (2, .int (zI (co 3 k)))]) (LC (vz (by omega)) (LC rfl (LC rfl (LC rfl rfl)))) (ih_i (by omega) f1_166 (((((nn + 1) + 1) + 1) + 1) + 1) (by rw [show lnT co k (i + 1) = (((((lnT co k i) ++ [32]) ++ [45]) ++ [48 + (co 7 (k * 6 + (i : Int)))]) ++ [42]) ++ [48 + (co 9 (k * 8 + co 7 (k * 6 + (i : Int))))] by (have e1 : sgT co k (co 7 (k * 6 + (i : Int))) = 45 := by (unfold sgT; unfold sdC at *; rw [if_neg (by omega)])); (show tsT (lnT co k i) co k (co 7 (k * 6 + (i : Int))) = _); rw [tsT, e1]]; exact hp_f_167) (by omega) _ _ hM h_mo)
            · skip
              refine v_bipush X dX10_formatCase_134 136 rfl rfl ?_
              refine v_goto X dX10_formatCase_136 141 (by decide) ?_
              refine v_muV X hM (h_mo.1) (c_X10_writes l E b (updC (updC mo 0 (updZ (updZ (mo 0) 0 0) 6 (nn + 1))) 2 f1_151) 43 ((lnT co k i) ++ [32]) (show 0 ≤ (nn + 1) from (by omega)) (show (nn + 1) < 60 from (by omega)) (by omega) (by omega) hp_f_152) kvX10_writes kiX10_writes kl_X10_163 (q0 := 0) rfl rfl (As := [.int (zI 43)]) rfl rfl rfl dX10_formatCase_141 144 rfl (k' := 0) (n' := 0) rfl rfl (fsI (fun q q1 q2 => (Or.inl (fsH (by omega) (by omega))))) h_mo (fun rv H168 lo168 hM hF hpo => ?_)
              obtain ⟨f1_169, rfl, hp_f_170, hw_0⟩ := hpo
              have h_mo : PR E b (modelW E b (updC (updC mo 0 (updZ (updZ (mo 0) 0 0) 6 ((nn + 1) + 1))) 2 f1_169)) H168 := hw_0
              show V p l e (rmL 3 0 0) s m args below meth cd Q 4 H168 lo168 0 0 144 [(3, .int (zI (i : Int))), (0, .ref b), (1, .int (zI k)), (2, .int (zI (co 3 k)))] []
              replace hp_f_170 : LT f1_169 ((nn + 1) + 1) (((lnT co k i) ++ [32]) ++ [43]) := hp_f_170
              refine v_aload_n X dX10_formatCase_144 145 rfl 1 rfl ?_
              refine v_aload_n X dX10_formatCase_145 146 rfl 1 rfl ?_
              refine v_iload_n X dX10_formatCase_146 147 rfl 2 rfl ?_
              refine v_iload_n X dX10_formatCase_147 148 rfl 0 rfl ?_
              refine v_iconst X dX10_formatCase_148 149 rfl ?_
              refine v_rdV X hM.C h_mo.1 (c_X10_t_0 l E b (updC (updC mo 0 (updZ (updZ (mo 0) 0 0) 6 ((nn + 1) + 1))) 2 f1_169) co k (i : Int) hO hR (by omega) (by omega) (by omega) (by omega)) kvX10_t kiX10_t kl_X10_51 rfl rfl (As := [.int (zI k), .int (zI (i : Int)), .int (zI 0)]) rfl rfl rfl dX10_formatCase_149 152 rfl ?_
              show V p l e (rmL 3 0 0) s m args below meth cd Q 4 H168 lo168 0 0 152 [(3, .int (zI (i : Int))), (0, .ref b), (1, .int (zI k)), (2, .int (zI (co 3 k)))] [.int (zI (co 7 (k * 6 + (i : Int)))), .ref b]
              have hb_171 := hO.b7 (k * 6 + (i : Int))
              refine v_muV X hM (h_mo.1) (c_X10_writesNumber_1 l E b (updC (updC mo 0 (updZ (updZ (mo 0) 0 0) 6 ((nn + 1) + 1))) 2 f1_169) (co 7 (k * 6 + (i : Int))) (((lnT co k i) ++ [32]) ++ [43]) (by omega) (by omega) (show 0 ≤ ((nn + 1) + 1) from (by omega)) (show ((nn + 1) + 1) < 60 from (by omega)) hp_f_170) kvX10_writesNumber kiX10_writesNumber kl_X10_159 (q0 := 0) rfl rfl (As := [.int (zI (co 7 (k * 6 + (i : Int))))]) rfl rfl rfl dX10_formatCase_152 155 rfl (k' := 0) (n' := 0) rfl rfl (fsI (fun q q1 q2 => (Or.inl (fsH (by omega) (by omega))))) h_mo (fun rv H172 lo172 hM hF hpo => ?_)
              obtain ⟨f1_173, rfl, hp_f_174, hw_0⟩ := hpo
              have h_mo : PR E b (modelW E b (updC (updC mo 0 (updZ (updZ (mo 0) 0 0) 6 (((nn + 1) + 1) + 1))) 2 f1_173)) H172 := hw_0
              show V p l e (rmL 3 0 0) s m args below meth cd Q 4 H172 lo172 0 0 155 [(3, .int (zI (i : Int))), (0, .ref b), (1, .int (zI k)), (2, .int (zI (co 3 k)))] []
              replace hp_f_174 : LT f1_173 (((nn + 1) + 1) + 1) ((((lnT co k i) ++ [32]) ++ [43]) ++ [48 + (co 7 (k * 6 + (i : Int)))]) := hp_f_174
              refine v_aload_n X dX10_formatCase_155 156 rfl 1 rfl ?_
              refine v_bipush X dX10_formatCase_156 158 rfl rfl ?_
              refine v_muV X hM (h_mo.1) (c_X10_writes l E b (updC (updC mo 0 (updZ (updZ (mo 0) 0 0) 6 (((nn + 1) + 1) + 1))) 2 f1_173) 42 ((((lnT co k i) ++ [32]) ++ [43]) ++ [48 + (co 7 (k * 6 + (i : Int)))]) (show 0 ≤ (((nn + 1) + 1) + 1) from (by omega)) (show (((nn + 1) + 1) + 1) < 60 from (by omega)) (by omega) (by omega) hp_f_174) kvX10_writes kiX10_writes kl_X10_163 (q0 := 0) rfl rfl (As := [.int (zI 42)]) rfl rfl rfl dX10_formatCase_158 161 rfl (k' := 0) (n' := 0) rfl rfl (fsI (fun q q1 q2 => (Or.inl (fsH (by omega) (by omega))))) h_mo (fun rv H175 lo175 hM hF hpo => ?_)
              obtain ⟨f1_176, rfl, hp_f_177, hw_0⟩ := hpo
              have h_mo : PR E b (modelW E b (updC (updC mo 0 (updZ (updZ (mo 0) 0 0) 6 ((((nn + 1) + 1) + 1) + 1))) 2 f1_176)) H175 := hw_0
              show V p l e (rmL 3 0 0) s m args below meth cd Q 4 H175 lo175 0 0 161 [(3, .int (zI (i : Int))), (0, .ref b), (1, .int (zI k)), (2, .int (zI (co 3 k)))] []
              replace hp_f_177 : LT f1_176 ((((nn + 1) + 1) + 1) + 1) (((((lnT co k i) ++ [32]) ++ [43]) ++ [48 + (co 7 (k * 6 + (i : Int)))]) ++ [42]) := hp_f_177
              refine v_aload_n X dX10_formatCase_161 162 rfl 1 rfl ?_
              refine v_aload_n X dX10_formatCase_162 163 rfl 1 rfl ?_
              refine v_iload_n X dX10_formatCase_163 164 rfl 2 rfl ?_
              refine v_iload_n X dX10_formatCase_164 165 rfl 0 rfl ?_
              refine v_iconst X dX10_formatCase_165 166 rfl ?_
              refine v_rdV X hM.C h_mo.1 (c_X10_t_2 l E b (updC (updC mo 0 (updZ (updZ (mo 0) 0 0) 6 ((((nn + 1) + 1) + 1) + 1))) 2 f1_176) co k (i : Int) hO hR (by omega) (by omega) (by omega) (by omega)) kvX10_t kiX10_t kl_X10_51 rfl rfl (As := [.int (zI k), .int (zI (i : Int)), .int (zI 2)]) rfl rfl rfl dX10_formatCase_166 169 rfl ?_
              show V p l e (rmL 3 0 0) s m args below meth cd Q 4 H175 lo175 0 0 169 [(3, .int (zI (i : Int))), (0, .ref b), (1, .int (zI k)), (2, .int (zI (co 3 k)))] [.int (zI (co 9 (k * 8 + co 7 (k * 6 + (i : Int))))), .ref b]
              have hb_178 := hO.b9 (k * 8 + co 7 (k * 6 + (i : Int)))
              refine v_muV X hM (h_mo.1) (c_X10_writesNumber_1 l E b (updC (updC mo 0 (updZ (updZ (mo 0) 0 0) 6 ((((nn + 1) + 1) + 1) + 1))) 2 f1_176) (co 9 (k * 8 + co 7 (k * 6 + (i : Int)))) (((((lnT co k i) ++ [32]) ++ [43]) ++ [48 + (co 7 (k * 6 + (i : Int)))]) ++ [42]) (by omega) (by omega) (show 0 ≤ ((((nn + 1) + 1) + 1) + 1) from (by omega)) (show ((((nn + 1) + 1) + 1) + 1) < 60 from (by omega)) hp_f_177) kvX10_writesNumber kiX10_writesNumber kl_X10_159 (q0 := 0) rfl rfl (As := [.int (zI (co 9 (k * 8 + co 7 (k * 6 + (i : Int)))))]) rfl rfl rfl dX10_formatCase_169 172 rfl (k' := 0) (n' := 0) rfl rfl (fsI (fun q q1 q2 => (Or.inl (fsH (by omega) (by omega))))) h_mo (fun rv H179 lo179 hM hF hpo => ?_)
              obtain ⟨f1_180, rfl, hp_f_181, hw_0⟩ := hpo
              have h_mo : PR E b (modelW E b (updC (updC mo 0 (updZ (updZ (mo 0) 0 0) 6 (((((nn + 1) + 1) + 1) + 1) + 1))) 2 f1_180)) H179 := hw_0
              show V p l e (rmL 3 0 0) s m args below meth cd Q 4 H179 lo179 0 0 172 [(3, .int (zI (i : Int))), (0, .ref b), (1, .int (zI k)), (2, .int (zI (co 3 k)))] []
              replace hp_f_181 : LT f1_180 (((((nn + 1) + 1) + 1) + 1) + 1) ((((((lnT co k i) ++ [32]) ++ [43]) ++ [48 + (co 7 (k * 6 + (i : Int)))]) ++ [42]) ++ [48 + (co 9 (k * 8 + co 7 (k * 6 + (i : Int))))]) := hp_f_181
              refine v_iinc X dX10_formatCase_172 175 rfl 0 rfl (by decide) (L' := [(3, .int (zI ((i : Int) + 1))), (0, .ref b), (1, .int (zI k)), (2, .int (zI (co 3 k)))]) rfl ?_
              refine v_goto X dX10_formatCase_175 106 (by decide) ?_
              exact V_L (L' := [(3, .int (zI ((i + 1 : Nat) : Int))), (0, .ref b), (1, .int (zI k)), (2, .int (zI (co 3 k)))]) (LC (vz (by omega)) (LC rfl (LC rfl (LC rfl rfl)))) (ih_i (by omega) f1_180 (((((nn + 1) + 1) + 1) + 1) + 1) (by rw [show lnT co k (i + 1) = (((((lnT co k i) ++ [32]) ++ [43]) ++ [48 + (co 7 (k * 6 + (i : Int)))]) ++ [42]) ++ [48 + (co 9 (k * 8 + co 7 (k * 6 + (i : Int))))] by (have e1 : sgT co k (co 7 (k * 6 + (i : Int))) = 43 := by (unfold sgT; unfold sdC at *; rw [if_pos (by omega)])); (show tsT (lnT co k i) co k (co 7 (k * 6 + (i : Int))) = _); rw [tsT, e1]]; exact hp_f_181) (by omega) _ _ hM h_mo)
    · skip
      refine v_bipush X dX10_formatCase_68 70 rfl rfl ?_
      refine v_goto X dX10_formatCase_70 90 (by decide) ?_
      refine v_muV X hM (h_mo.1) (c_X10_writes l E b (updC (updC mo 0 (updZ (updZ (mo 0) 0 0) 6 ((((n1_8 + 1) + 1) + 1) + 1))) 2 f1_23) 111 ((((([] ++ nmT k) ++ [58]) ++ [48 + (co 1 k)]) ++ [47]) ++ [48 + (co 2 k)]) (show 0 ≤ ((((n1_8 + 1) + 1) + 1) + 1) from (by omega)) (show ((((n1_8 + 1) + 1) + 1) + 1) < 60 from (by omega)) (by omega) (by omega) hp_f_24) kvX10_writes kiX10_writes kl_X10_163 (q0 := 0) rfl rfl (As := [.int (zI 111)]) rfl rfl rfl dX10_formatCase_90 93 rfl (k' := 0) (n' := 0) rfl rfl (fsI (fun q q1 q2 => (Or.inl (fsH (by omega) (by omega))))) h_mo (fun rv H182 lo182 hM hF hpo => ?_)
      obtain ⟨f1_183, rfl, hp_f_184, hw_0⟩ := hpo
      have h_mo : PR E b (modelW E b (updC (updC mo 0 (updZ (updZ (mo 0) 0 0) 6 (((((n1_8 + 1) + 1) + 1) + 1) + 1))) 2 f1_183)) H182 := hw_0
      show V p l e (rmL 3 0 0) s m args below meth cd Q 4 H182 lo182 0 0 93 [(2, .int (zI (co 3 k))), (0, .ref b), (1, .int (zI k))] []
      replace hp_f_184 : LT f1_183 (((((n1_8 + 1) + 1) + 1) + 1) + 1) (((((([] ++ nmT k) ++ [58]) ++ [48 + (co 1 k)]) ++ [47]) ++ [48 + (co 2 k)]) ++ [111]) := hp_f_184
      refine v_iload_n X dX10_formatCase_93 94 rfl 0 rfl ?_
      refine v_iconst X dX10_formatCase_94 95 rfl ?_
      refine v_icmp_ne X (by omega) (by omega) dX10_formatCase_95 98 104 rfl (by decide) (fun c_185 => ?_) (fun c_185 => ?_)
      · skip
        refine v_iconst X dX10_formatCase_104 105 rfl ?_
        refine v_istore_n X dX10_formatCase_105 106 rfl rfl (by decide) (L' := [(3, .int (zI 0)), (2, .int (zI (co 3 k))), (0, .ref b), (1, .int (zI k))]) rfl ?_
        refine v_locals [0, 2, 3, 1] (L' := [(3, .int (zI 0)), (0, .ref b), (1, .int (zI k)), (2, .int (zI (co 3 k)))]) rfl ?_
        refine V_L (L' := [(3, .int (zI 0)), (0, .ref b), (1, .int (zI k)), (2, .int (zI (co 3 k)))]) (LC (vz (by rfl)) (LC rfl (LC rfl (LC rfl rfl)))) ?_
        refine up_loop ((co 6 k).toNat) (P := fun (i : Nat) => ∀ (ff : Int → Int), ∀ (nn : Int), (LT ff nn (lnT co k i)) → (0 ≤ nn ∧ nn ≤ 8 + 5 * (i : Int)) → ∀ (H : Heap) (lo : List Loc), MS E [(b, 5)] s H lo → PR E b (modelW E b (updC (updC mo 0 (updZ (updZ (mo 0) 0 0) 6 nn)) 2 ff)) H → V p l e (rmL 3 0 0) s m args below meth cd Q 4 H lo 0 0 106 [(3, .int (zI (i : Int))), (0, .ref b), (1, .int (zI k)), (2, .int (zI (co 3 k)))] []) (fun i hi_i ih_i ff nn hLT hnn H186 lo186 hM h_mo => ?_) f1_183 (((((n1_8 + 1) + 1) + 1) + 1) + 1) (by rw [show lnT co k 0 = ((((([] ++ nmT k) ++ [58]) ++ [48 + (co 1 k)]) ++ [47]) ++ [48 + (co 2 k)]) ++ [111] by (have e1 : phT co k = 111 := by (unfold phT; first | rw [if_pos (by omega)] | rw [if_neg (by omega), if_pos (by omega)] | rw [if_neg (by omega), if_neg (by omega)])); (have e2 : clT co k = [] := by (unfold clT; rw [if_neg (by omega)])); (show hdT co k = _); rw [hdT, e1, e2, List.append_nil] <;> rfl]; exact hp_f_184) (by omega) _ _ hM h_mo
        refine v_iload_n X dX10_formatCase_106 107 rfl 0 rfl ?_
        refine v_aload_n X dX10_formatCase_107 108 rfl 1 rfl ?_
        refine v_iload_n X dX10_formatCase_108 109 rfl 2 rfl ?_
        refine v_iconst X dX10_formatCase_109 110 rfl ?_
        refine v_rdV X hM.C h_mo.1 (c_X10_c_5 l E b (updC (updC mo 0 (updZ (updZ (mo 0) 0 0) 6 nn)) 2 ff) co k hO hR (by omega) (by omega)) kvX10_c kiX10_c kl_X10_47 rfl rfl (As := [.int (zI k), .int (zI 5)]) rfl rfl rfl dX10_formatCase_110 113 rfl ?_
        show V p l e (rmL 3 0 0) s m args below meth cd Q 4 H186 lo186 0 0 113 [(3, .int (zI (i : Int))), (0, .ref b), (1, .int (zI k)), (2, .int (zI (co 3 k)))] [.int (zI (co 6 k)), .int (zI (i : Int))]
        have hb_187 := hO.b6 k
        refine v_icmp_ge X (by omega) (by omega) dX10_formatCase_113 116 178 rfl (by decide) (fun c_188 => ?_) (fun c_188 => ?_)
        · skip
          refine v_aload_n X dX10_formatCase_178 179 rfl 1 rfl ?_
          refine v_getf X hM.C h_mo.1 inX10 0 rfl rfl 6 (by decide) kf_X10_156 (fun _ h => h) rfl dX10_formatCase_179 182 rfl ?_
          show V p l e (rmL 3 0 0) s m args below meth cd Q 4 H186 lo186 0 0 182 [(3, .int (zI (i : Int))), (0, .ref b), (1, .int (zI k)), (2, .int (zI (co 3 k)))] [.int (zI nn)]
          subst hQ; exact m_iret X hr hlk hM dX10_formatCase_182 rfl ⟨ff, nn, (sv (by omega)), (by rw [show (co 6 k).toNat = i by omega]; exact hLT), (by omega), h_mo⟩
        · skip
          have hsd := hI.sd (j := (i : Int)) (k := k) (by omega) (by omega) (by omega) (by omega)
          have hb7 := hO.b7 (k * 6 + (i : Int))
          refine v_aload_n X dX10_formatCase_116 117 rfl 1 rfl ?_
          refine v_bipush X dX10_formatCase_117 119 rfl rfl ?_
          refine v_muV X hM (h_mo.1) (c_X10_writes l E b (updC (updC mo 0 (updZ (updZ (mo 0) 0 0) 6 nn)) 2 ff) 32 (lnT co k i) (show 0 ≤ nn from (by omega)) (show nn < 60 from (by omega)) (by omega) (by omega) hLT) kvX10_writes kiX10_writes kl_X10_163 (q0 := 0) rfl rfl (As := [.int (zI 32)]) rfl rfl rfl dX10_formatCase_119 122 rfl (k' := 0) (n' := 0) rfl rfl (fsI (fun q q1 q2 => (Or.inl (fsH (by omega) (by omega))))) h_mo (fun rv H189 lo189 hM hF hpo => ?_)
          obtain ⟨f1_190, rfl, hp_f_191, hw_0⟩ := hpo
          have h_mo : PR E b (modelW E b (updC (updC mo 0 (updZ (updZ (mo 0) 0 0) 6 (nn + 1))) 2 f1_190)) H189 := hw_0
          show V p l e (rmL 3 0 0) s m args below meth cd Q 4 H189 lo189 0 0 122 [(3, .int (zI (i : Int))), (0, .ref b), (1, .int (zI k)), (2, .int (zI (co 3 k)))] []
          replace hp_f_191 : LT f1_190 (nn + 1) ((lnT co k i) ++ [32]) := hp_f_191
          refine v_aload_n X dX10_formatCase_122 123 rfl 1 rfl ?_
          refine v_aload_n X dX10_formatCase_123 124 rfl 1 rfl ?_
          refine v_iload_n X dX10_formatCase_124 125 rfl 2 rfl ?_
          refine v_iload_n X dX10_formatCase_125 126 rfl 0 rfl ?_
          refine v_iconst X dX10_formatCase_126 127 rfl ?_
          refine v_rdV X hM.C h_mo.1 (c_X10_t_1 l E b (updC (updC mo 0 (updZ (updZ (mo 0) 0 0) 6 (nn + 1))) 2 f1_190) co k (i : Int) hO hR (by omega) (by omega) (by omega) (by omega)) kvX10_t kiX10_t kl_X10_51 rfl rfl (As := [.int (zI k), .int (zI (i : Int)), .int (zI 1)]) rfl rfl rfl dX10_formatCase_127 130 rfl ?_
          show V p l e (rmL 3 0 0) s m args below meth cd Q 4 H189 lo189 0 0 130 [(3, .int (zI (i : Int))), (0, .ref b), (1, .int (zI k)), (2, .int (zI (co 3 k)))] [.int (zI ((sdC co k (i : Int) + 1) / 2)), .ref b]
          refine v_iconst X dX10_formatCase_130 131 rfl ?_
          refine v_icmp_ne X (by omega) (by omega) dX10_formatCase_131 134 139 rfl (by decide) (fun c_192 => ?_) (fun c_192 => ?_)
          · skip
            refine v_bipush X dX10_formatCase_139 141 rfl rfl ?_
            refine v_muV X hM (h_mo.1) (c_X10_writes l E b (updC (updC mo 0 (updZ (updZ (mo 0) 0 0) 6 (nn + 1))) 2 f1_190) 45 ((lnT co k i) ++ [32]) (show 0 ≤ (nn + 1) from (by omega)) (show (nn + 1) < 60 from (by omega)) (by omega) (by omega) hp_f_191) kvX10_writes kiX10_writes kl_X10_163 (q0 := 0) rfl rfl (As := [.int (zI 45)]) rfl rfl rfl dX10_formatCase_141 144 rfl (k' := 0) (n' := 0) rfl rfl (fsI (fun q q1 q2 => (Or.inl (fsH (by omega) (by omega))))) h_mo (fun rv H193 lo193 hM hF hpo => ?_)
            obtain ⟨f1_194, rfl, hp_f_195, hw_0⟩ := hpo
            have h_mo : PR E b (modelW E b (updC (updC mo 0 (updZ (updZ (mo 0) 0 0) 6 ((nn + 1) + 1))) 2 f1_194)) H193 := hw_0
            show V p l e (rmL 3 0 0) s m args below meth cd Q 4 H193 lo193 0 0 144 [(3, .int (zI (i : Int))), (0, .ref b), (1, .int (zI k)), (2, .int (zI (co 3 k)))] []
            replace hp_f_195 : LT f1_194 ((nn + 1) + 1) (((lnT co k i) ++ [32]) ++ [45]) := hp_f_195
            refine v_aload_n X dX10_formatCase_144 145 rfl 1 rfl ?_
            refine v_aload_n X dX10_formatCase_145 146 rfl 1 rfl ?_
            refine v_iload_n X dX10_formatCase_146 147 rfl 2 rfl ?_
            refine v_iload_n X dX10_formatCase_147 148 rfl 0 rfl ?_
            refine v_iconst X dX10_formatCase_148 149 rfl ?_
            refine v_rdV X hM.C h_mo.1 (c_X10_t_0 l E b (updC (updC mo 0 (updZ (updZ (mo 0) 0 0) 6 ((nn + 1) + 1))) 2 f1_194) co k (i : Int) hO hR (by omega) (by omega) (by omega) (by omega)) kvX10_t kiX10_t kl_X10_51 rfl rfl (As := [.int (zI k), .int (zI (i : Int)), .int (zI 0)]) rfl rfl rfl dX10_formatCase_149 152 rfl ?_
            show V p l e (rmL 3 0 0) s m args below meth cd Q 4 H193 lo193 0 0 152 [(3, .int (zI (i : Int))), (0, .ref b), (1, .int (zI k)), (2, .int (zI (co 3 k)))] [.int (zI (co 7 (k * 6 + (i : Int)))), .ref b]
            have hb_196 := hO.b7 (k * 6 + (i : Int))
            refine v_muV X hM (h_mo.1) (c_X10_writesNumber_1 l E b (updC (updC mo 0 (updZ (updZ (mo 0) 0 0) 6 ((nn + 1) + 1))) 2 f1_194) (co 7 (k * 6 + (i : Int))) (((lnT co k i) ++ [32]) ++ [45]) (by omega) (by omega) (show 0 ≤ ((nn + 1) + 1) from (by omega)) (show ((nn + 1) + 1) < 60 from (by omega)) hp_f_195) kvX10_writesNumber kiX10_writesNumber kl_X10_159 (q0 := 0) rfl rfl (As := [.int (zI (co 7 (k * 6 + (i : Int))))]) rfl rfl rfl dX10_formatCase_152 155 rfl (k' := 0) (n' := 0) rfl rfl (fsI (fun q q1 q2 => (Or.inl (fsH (by omega) (by omega))))) h_mo (fun rv H197 lo197 hM hF hpo => ?_)
            obtain ⟨f1_198, rfl, hp_f_199, hw_0⟩ := hpo
            have h_mo : PR E b (modelW E b (updC (updC mo 0 (updZ (updZ (mo 0) 0 0) 6 (((nn + 1) + 1) + 1))) 2 f1_198)) H197 := hw_0
            show V p l e (rmL 3 0 0) s m args below meth cd Q 4 H197 lo197 0 0 155 [(3, .int (zI (i : Int))), (0, .ref b), (1, .int (zI k)), (2, .int (zI (co 3 k)))] []
            replace hp_f_199 : LT f1_198 (((nn + 1) + 1) + 1) ((((lnT co k i) ++ [32]) ++ [45]) ++ [48 + (co 7 (k * 6 + (i : Int)))]) := hp_f_199
            refine v_aload_n X dX10_formatCase_155 156 rfl 1 rfl ?_
            refine v_bipush X dX10_formatCase_156 158 rfl rfl ?_
            refine v_muV X hM (h_mo.1) (c_X10_writes l E b (updC (updC mo 0 (updZ (updZ (mo 0) 0 0) 6 (((nn + 1) + 1) + 1))) 2 f1_198) 42 ((((lnT co k i) ++ [32]) ++ [45]) ++ [48 + (co 7 (k * 6 + (i : Int)))]) (show 0 ≤ (((nn + 1) + 1) + 1) from (by omega)) (show (((nn + 1) + 1) + 1) < 60 from (by omega)) (by omega) (by omega) hp_f_199) kvX10_writes kiX10_writes kl_X10_163 (q0 := 0) rfl rfl (As := [.int (zI 42)]) rfl rfl rfl dX10_formatCase_158 161 rfl (k' := 0) (n' := 0) rfl rfl (fsI (fun q q1 q2 => (Or.inl (fsH (by omega) (by omega))))) h_mo (fun rv H200 lo200 hM hF hpo => ?_)
            obtain ⟨f1_201, rfl, hp_f_202, hw_0⟩ := hpo
            have h_mo : PR E b (modelW E b (updC (updC mo 0 (updZ (updZ (mo 0) 0 0) 6 ((((nn + 1) + 1) + 1) + 1))) 2 f1_201)) H200 := hw_0
            show V p l e (rmL 3 0 0) s m args below meth cd Q 4 H200 lo200 0 0 161 [(3, .int (zI (i : Int))), (0, .ref b), (1, .int (zI k)), (2, .int (zI (co 3 k)))] []
            replace hp_f_202 : LT f1_201 ((((nn + 1) + 1) + 1) + 1) (((((lnT co k i) ++ [32]) ++ [45]) ++ [48 + (co 7 (k * 6 + (i : Int)))]) ++ [42]) := hp_f_202
            refine v_aload_n X dX10_formatCase_161 162 rfl 1 rfl ?_
            refine v_aload_n X dX10_formatCase_162 163 rfl 1 rfl ?_
            refine v_iload_n X dX10_formatCase_163 164 rfl 2 rfl ?_
            refine v_iload_n X dX10_formatCase_164 165 rfl 0 rfl ?_
            refine v_iconst X dX10_formatCase_165 166 rfl ?_
            refine v_rdV X hM.C h_mo.1 (c_X10_t_2 l E b (updC (updC mo 0 (updZ (updZ (mo 0) 0 0) 6 ((((nn + 1) + 1) + 1) + 1))) 2 f1_201) co k (i : Int) hO hR (by omega) (by omega) (by omega) (by omega)) kvX10_t kiX10_t kl_X10_51 rfl rfl (As := [.int (zI k), .int (zI (i : Int)), .int (zI 2)]) rfl rfl rfl dX10_formatCase_166 169 rfl ?_
            show V p l e (rmL 3 0 0) s m args below meth cd Q 4 H200 lo200 0 0 169 [(3, .int (zI (i : Int))), (0, .ref b), (1, .int (zI k)), (2, .int (zI (co 3 k)))] [.int (zI (co 9 (k * 8 + co 7 (k * 6 + (i : Int))))), .ref b]
            have hb_203 := hO.b9 (k * 8 + co 7 (k * 6 + (i : Int)))
            refine v_muV X hM (h_mo.1) (c_X10_writesNumber_1 l E b (updC (updC mo 0 (updZ (updZ (mo 0) 0 0) 6 ((((nn + 1) + 1) + 1) + 1))) 2 f1_201) (co 9 (k * 8 + co 7 (k * 6 + (i : Int)))) (((((lnT co k i) ++ [32]) ++ [45]) ++ [48 + (co 7 (k * 6 + (i : Int)))]) ++ [42]) (by omega) (by omega) (show 0 ≤ ((((nn + 1) + 1) + 1) + 1) from (by omega)) (show ((((nn + 1) + 1) + 1) + 1) < 60 from (by omega)) hp_f_202) kvX10_writesNumber kiX10_writesNumber kl_X10_159 (q0 := 0) rfl rfl (As := [.int (zI (co 9 (k * 8 + co 7 (k * 6 + (i : Int)))))]) rfl rfl rfl dX10_formatCase_169 172 rfl (k' := 0) (n' := 0) rfl rfl (fsI (fun q q1 q2 => (Or.inl (fsH (by omega) (by omega))))) h_mo (fun rv H204 lo204 hM hF hpo => ?_)
            obtain ⟨f1_205, rfl, hp_f_206, hw_0⟩ := hpo
            have h_mo : PR E b (modelW E b (updC (updC mo 0 (updZ (updZ (mo 0) 0 0) 6 (((((nn + 1) + 1) + 1) + 1) + 1))) 2 f1_205)) H204 := hw_0
            show V p l e (rmL 3 0 0) s m args below meth cd Q 4 H204 lo204 0 0 172 [(3, .int (zI (i : Int))), (0, .ref b), (1, .int (zI k)), (2, .int (zI (co 3 k)))] []
            replace hp_f_206 : LT f1_205 (((((nn + 1) + 1) + 1) + 1) + 1) ((((((lnT co k i) ++ [32]) ++ [45]) ++ [48 + (co 7 (k * 6 + (i : Int)))]) ++ [42]) ++ [48 + (co 9 (k * 8 + co 7 (k * 6 + (i : Int))))]) := hp_f_206
            refine v_iinc X dX10_formatCase_172 175 rfl 0 rfl (by decide) (L' := [(3, .int (zI ((i : Int) + 1))), (0, .ref b), (1, .int (zI k)), (2, .int (zI (co 3 k)))]) rfl ?_
            refine v_goto X dX10_formatCase_175 106 (by decide) ?_
            exact V_L (L' := [(3, .int (zI ((i + 1 : Nat) : Int))), (0, .ref b), (1, .int (zI k)), (2, .int (zI (co 3 k)))]) (LC (vz (by omega)) (LC rfl (LC rfl (LC rfl rfl)))) (ih_i (by omega) f1_205 (((((nn + 1) + 1) + 1) + 1) + 1) (by rw [show lnT co k (i + 1) = (((((lnT co k i) ++ [32]) ++ [45]) ++ [48 + (co 7 (k * 6 + (i : Int)))]) ++ [42]) ++ [48 + (co 9 (k * 8 + co 7 (k * 6 + (i : Int))))] by (have e1 : sgT co k (co 7 (k * 6 + (i : Int))) = 45 := by (unfold sgT; unfold sdC at *; rw [if_neg (by omega)])); (show tsT (lnT co k i) co k (co 7 (k * 6 + (i : Int))) = _); rw [tsT, e1]]; exact hp_f_206) (by omega) _ _ hM h_mo)
          · skip
            refine v_bipush X dX10_formatCase_134 136 rfl rfl ?_
            refine v_goto X dX10_formatCase_136 141 (by decide) ?_
            refine v_muV X hM (h_mo.1) (c_X10_writes l E b (updC (updC mo 0 (updZ (updZ (mo 0) 0 0) 6 (nn + 1))) 2 f1_190) 43 ((lnT co k i) ++ [32]) (show 0 ≤ (nn + 1) from (by omega)) (show (nn + 1) < 60 from (by omega)) (by omega) (by omega) hp_f_191) kvX10_writes kiX10_writes kl_X10_163 (q0 := 0) rfl rfl (As := [.int (zI 43)]) rfl rfl rfl dX10_formatCase_141 144 rfl (k' := 0) (n' := 0) rfl rfl (fsI (fun q q1 q2 => (Or.inl (fsH (by omega) (by omega))))) h_mo (fun rv H207 lo207 hM hF hpo => ?_)
            obtain ⟨f1_208, rfl, hp_f_209, hw_0⟩ := hpo
            have h_mo : PR E b (modelW E b (updC (updC mo 0 (updZ (updZ (mo 0) 0 0) 6 ((nn + 1) + 1))) 2 f1_208)) H207 := hw_0
            show V p l e (rmL 3 0 0) s m args below meth cd Q 4 H207 lo207 0 0 144 [(3, .int (zI (i : Int))), (0, .ref b), (1, .int (zI k)), (2, .int (zI (co 3 k)))] []
            replace hp_f_209 : LT f1_208 ((nn + 1) + 1) (((lnT co k i) ++ [32]) ++ [43]) := hp_f_209
            refine v_aload_n X dX10_formatCase_144 145 rfl 1 rfl ?_
            refine v_aload_n X dX10_formatCase_145 146 rfl 1 rfl ?_
            refine v_iload_n X dX10_formatCase_146 147 rfl 2 rfl ?_
            refine v_iload_n X dX10_formatCase_147 148 rfl 0 rfl ?_
            refine v_iconst X dX10_formatCase_148 149 rfl ?_
            refine v_rdV X hM.C h_mo.1 (c_X10_t_0 l E b (updC (updC mo 0 (updZ (updZ (mo 0) 0 0) 6 ((nn + 1) + 1))) 2 f1_208) co k (i : Int) hO hR (by omega) (by omega) (by omega) (by omega)) kvX10_t kiX10_t kl_X10_51 rfl rfl (As := [.int (zI k), .int (zI (i : Int)), .int (zI 0)]) rfl rfl rfl dX10_formatCase_149 152 rfl ?_
            show V p l e (rmL 3 0 0) s m args below meth cd Q 4 H207 lo207 0 0 152 [(3, .int (zI (i : Int))), (0, .ref b), (1, .int (zI k)), (2, .int (zI (co 3 k)))] [.int (zI (co 7 (k * 6 + (i : Int)))), .ref b]
            have hb_210 := hO.b7 (k * 6 + (i : Int))
            refine v_muV X hM (h_mo.1) (c_X10_writesNumber_1 l E b (updC (updC mo 0 (updZ (updZ (mo 0) 0 0) 6 ((nn + 1) + 1))) 2 f1_208) (co 7 (k * 6 + (i : Int))) (((lnT co k i) ++ [32]) ++ [43]) (by omega) (by omega) (show 0 ≤ ((nn + 1) + 1) from (by omega)) (show ((nn + 1) + 1) < 60 from (by omega)) hp_f_209) kvX10_writesNumber kiX10_writesNumber kl_X10_159 (q0 := 0) rfl rfl (As := [.int (zI (co 7 (k * 6 + (i : Int))))]) rfl rfl rfl dX10_formatCase_152 155 rfl (k' := 0) (n' := 0) rfl rfl (fsI (fun q q1 q2 => (Or.inl (fsH (by omega) (by omega))))) h_mo (fun rv H211 lo211 hM hF hpo => ?_)
            obtain ⟨f1_212, rfl, hp_f_213, hw_0⟩ := hpo
            have h_mo : PR E b (modelW E b (updC (updC mo 0 (updZ (updZ (mo 0) 0 0) 6 (((nn + 1) + 1) + 1))) 2 f1_212)) H211 := hw_0
            show V p l e (rmL 3 0 0) s m args below meth cd Q 4 H211 lo211 0 0 155 [(3, .int (zI (i : Int))), (0, .ref b), (1, .int (zI k)), (2, .int (zI (co 3 k)))] []
            replace hp_f_213 : LT f1_212 (((nn + 1) + 1) + 1) ((((lnT co k i) ++ [32]) ++ [43]) ++ [48 + (co 7 (k * 6 + (i : Int)))]) := hp_f_213
            refine v_aload_n X dX10_formatCase_155 156 rfl 1 rfl ?_
            refine v_bipush X dX10_formatCase_156 158 rfl rfl ?_
            refine v_muV X hM (h_mo.1) (c_X10_writes l E b (updC (updC mo 0 (updZ (updZ (mo 0) 0 0) 6 (((nn + 1) + 1) + 1))) 2 f1_212) 42 ((((lnT co k i) ++ [32]) ++ [43]) ++ [48 + (co 7 (k * 6 + (i : Int)))]) (show 0 ≤ (((nn + 1) + 1) + 1) from (by omega)) (show (((nn + 1) + 1) + 1) < 60 from (by omega)) (by omega) (by omega) hp_f_213) kvX10_writes kiX10_writes kl_X10_163 (q0 := 0) rfl rfl (As := [.int (zI 42)]) rfl rfl rfl dX10_formatCase_158 161 rfl (k' := 0) (n' := 0) rfl rfl (fsI (fun q q1 q2 => (Or.inl (fsH (by omega) (by omega))))) h_mo (fun rv H214 lo214 hM hF hpo => ?_)
            obtain ⟨f1_215, rfl, hp_f_216, hw_0⟩ := hpo
            have h_mo : PR E b (modelW E b (updC (updC mo 0 (updZ (updZ (mo 0) 0 0) 6 ((((nn + 1) + 1) + 1) + 1))) 2 f1_215)) H214 := hw_0
            show V p l e (rmL 3 0 0) s m args below meth cd Q 4 H214 lo214 0 0 161 [(3, .int (zI (i : Int))), (0, .ref b), (1, .int (zI k)), (2, .int (zI (co 3 k)))] []
            replace hp_f_216 : LT f1_215 ((((nn + 1) + 1) + 1) + 1) (((((lnT co k i) ++ [32]) ++ [43]) ++ [48 + (co 7 (k * 6 + (i : Int)))]) ++ [42]) := hp_f_216
            refine v_aload_n X dX10_formatCase_161 162 rfl 1 rfl ?_
            refine v_aload_n X dX10_formatCase_162 163 rfl 1 rfl ?_
            refine v_iload_n X dX10_formatCase_163 164 rfl 2 rfl ?_
            refine v_iload_n X dX10_formatCase_164 165 rfl 0 rfl ?_
            refine v_iconst X dX10_formatCase_165 166 rfl ?_
            refine v_rdV X hM.C h_mo.1 (c_X10_t_2 l E b (updC (updC mo 0 (updZ (updZ (mo 0) 0 0) 6 ((((nn + 1) + 1) + 1) + 1))) 2 f1_215) co k (i : Int) hO hR (by omega) (by omega) (by omega) (by omega)) kvX10_t kiX10_t kl_X10_51 rfl rfl (As := [.int (zI k), .int (zI (i : Int)), .int (zI 2)]) rfl rfl rfl dX10_formatCase_166 169 rfl ?_
            show V p l e (rmL 3 0 0) s m args below meth cd Q 4 H214 lo214 0 0 169 [(3, .int (zI (i : Int))), (0, .ref b), (1, .int (zI k)), (2, .int (zI (co 3 k)))] [.int (zI (co 9 (k * 8 + co 7 (k * 6 + (i : Int))))), .ref b]
            have hb_217 := hO.b9 (k * 8 + co 7 (k * 6 + (i : Int)))
            refine v_muV X hM (h_mo.1) (c_X10_writesNumber_1 l E b (updC (updC mo 0 (updZ (updZ (mo 0) 0 0) 6 ((((nn + 1) + 1) + 1) + 1))) 2 f1_215) (co 9 (k * 8 + co 7 (k * 6 + (i : Int)))) (((((lnT co k i) ++ [32]) ++ [43]) ++ [48 + (co 7 (k * 6 + (i : Int)))]) ++ [42]) (by omega) (by omega) (show 0 ≤ ((((nn + 1) + 1) + 1) + 1) from (by omega)) (show ((((nn + 1) + 1) + 1) + 1) < 60 from (by omega)) hp_f_216) kvX10_writesNumber kiX10_writesNumber kl_X10_159 (q0 := 0) rfl rfl (As := [.int (zI (co 9 (k * 8 + co 7 (k * 6 + (i : Int)))))]) rfl rfl rfl dX10_formatCase_169 172 rfl (k' := 0) (n' := 0) rfl rfl (fsI (fun q q1 q2 => (Or.inl (fsH (by omega) (by omega))))) h_mo (fun rv H218 lo218 hM hF hpo => ?_)
            obtain ⟨f1_219, rfl, hp_f_220, hw_0⟩ := hpo
            have h_mo : PR E b (modelW E b (updC (updC mo 0 (updZ (updZ (mo 0) 0 0) 6 (((((nn + 1) + 1) + 1) + 1) + 1))) 2 f1_219)) H218 := hw_0
            show V p l e (rmL 3 0 0) s m args below meth cd Q 4 H218 lo218 0 0 172 [(3, .int (zI (i : Int))), (0, .ref b), (1, .int (zI k)), (2, .int (zI (co 3 k)))] []
            replace hp_f_220 : LT f1_219 (((((nn + 1) + 1) + 1) + 1) + 1) ((((((lnT co k i) ++ [32]) ++ [43]) ++ [48 + (co 7 (k * 6 + (i : Int)))]) ++ [42]) ++ [48 + (co 9 (k * 8 + co 7 (k * 6 + (i : Int))))]) := hp_f_220
            refine v_iinc X dX10_formatCase_172 175 rfl 0 rfl (by decide) (L' := [(3, .int (zI ((i : Int) + 1))), (0, .ref b), (1, .int (zI k)), (2, .int (zI (co 3 k)))]) rfl ?_
            refine v_goto X dX10_formatCase_175 106 (by decide) ?_
            exact V_L (L' := [(3, .int (zI ((i + 1 : Nat) : Int))), (0, .ref b), (1, .int (zI k)), (2, .int (zI (co 3 k)))]) (LC (vz (by omega)) (LC rfl (LC rfl (LC rfl rfl)))) (ih_i (by omega) f1_219 (((((nn + 1) + 1) + 1) + 1) + 1) (by rw [show lnT co k (i + 1) = (((((lnT co k i) ++ [32]) ++ [43]) ++ [48 + (co 7 (k * 6 + (i : Int)))]) ++ [42]) ++ [48 + (co 9 (k * 8 + co 7 (k * 6 + (i : Int))))] by (have e1 : sgT co k (co 7 (k * 6 + (i : Int))) = 43 := by (unfold sgT; unfold sdC at *; rw [if_pos (by omega)])); (show tsT (lnT co k i) co k (co 7 (k * 6 + (i : Int))) = _); rw [tsT, e1]]; exact hp_f_220) (by omega) _ _ hM h_mo)
      · skip
        exfalso; omega
  · skip
    exfalso; omega
set_option maxHeartbeats 4000000 in
set_option maxRecDepth 20000 in
theorem c_X10_formatWitness (l : Launch) (E : Nat → Nat → Nat) (b : Nat) (mo : Nat → Int → Int) (co : Nat → Int → Int) (w : Int) (hO : OkC co) (hR : RelC co (mo 1)) (gw : Rg w) (p0 : 0 ≤ w ∧ w < co 0 1) : Mu l yX10_formatWitness cX10_formatWitness 2 (some .int) 2 0 0 E [(b, 5)] [.ref b, .int (zI w)] (fun H => PR E b (modelW E b mo) H) (fun rv H => ∃ f1 : Int → Int, ∃ n1 : Int, rv = some (.int (zI n1)) ∧ LT f1 n1 (wtT co w) ∧ (0 ≤ n1 ∧ n1 ≤ 38) ∧ PR E b (modelW E b (updC (updC mo 0 (updZ (updZ (mo 0) 0 0) 6 n1)) 2 f1)) H) := by
  refine Mu.start (own := RX10) rfl (by decide +kernel) (Nat.le_of_ble_eq_true rfl) ?_
  intro p e s m below meth cd args Q hQ X hr hlk hnm hM hPr
  have h_mo := hPr
  have hb0 := hO.b0
  have hbw := hO.bw
  have hr0 := hR.s0
  have hr1 := hR.s1
  refine v_aload_n X dX10_formatWitness_0 1 rfl 0 rfl ?_
  refine v_aload_n X dX10_formatWitness_1 2 rfl 0 rfl ?_
  refine v_iload_n X dX10_formatWitness_2 3 rfl 1 rfl ?_
  refine v_rdV X hM.C h_mo.1 (c_X10_isWitness l E b mo co w hO hR gw) kvX10_isWitness kiX10_isWitness kl_X10_95 rfl rfl (As := [.int (zI w)]) rfl rfl rfl dX10_formatWitness_3 6 rfl ?_
  show V p l e (rmL 2 0 0) s m args below meth cd Q 2 s.heap [] 0 0 6 [(0, .ref b), (1, .int (zI w))] [.int (zI (bz (0 ≤ w ∧ w < co 0 1))), .ref b]
  refine V_S (st' := [.int (zI 1), .ref b]) (by rw [bz_t (φ := 0 ≤ w ∧ w < co 0 1) (by first | omega | assumption)]) ?_
  refine v_muV X hM (h_mo.1) (c_X10_isFine_1 l E b mo) kvX10_isFine kiX10_isFine kl_X10_124 (q0 := 0) rfl rfl (As := [.int (zI 1)]) rfl rfl rfl dX10_formatWitness_6 9 rfl (k' := 0) (n' := 0) rfl rfl (fsI (fun q q1 q2 => (Or.inl (fsH (by omega) (by omega))))) h_mo (fun rv H1 lo1 hM hF hpo => ?_)
  obtain ⟨rfl, hw_0⟩ := hpo
  have h_mo : PR E b (modelW E b (updC mo 0 (updZ (mo 0) 0 0))) H1 := hw_0
  show V p l e (rmL 2 0 0) s m args below meth cd Q 2 H1 lo1 0 0 9 [(0, .ref b), (1, .int (zI w))] [.int (zI 1)]
  refine v_if_ne X (by omega) dX10_formatWitness_9 12 14 rfl (by decide) (fun c_2 => ?_) (fun c_2 => ?_)
  · skip
    refine v_aload_n X dX10_formatWitness_14 15 rfl 0 rfl ?_
    refine v_iconst X dX10_formatWitness_15 16 rfl ?_
    refine v_putf X hM h_mo ftX10 0 rfl rfl 6 (by decide) kf_X10_156 (fun _ h => h) rfl rfl rfl (Nat.le_of_ble_eq_true rfl) (Or.inl (fsH (by omega) (by omega))) dX10_formatWitness_16 19 rfl (ws' := modelW E b (updC mo 0 (updZ (updZ (mo 0) 0 0) 6 0))) rfl (fun H3 lo3 hzz hM hF h_mo => ?_)
    clear hzz
    have hT0 : LT (mo 2) 0 [] := LT.nil
    refine v_aload_n X dX10_formatWitness_19 20 rfl 0 rfl ?_
    refine v_bipush X dX10_formatWitness_20 22 rfl rfl ?_
    refine v_muV X hM (h_mo.1) (c_X10_writes l E b (updC mo 0 (updZ (updZ (mo 0) 0 0) 6 0)) 119 [] (show 0 ≤ 0 from (by omega)) (show 0 < 60 from (by omega)) (by omega) (by omega) hT0) kvX10_writes kiX10_writes kl_X10_163 (q0 := 0) rfl rfl (As := [.int (zI 119)]) rfl rfl rfl dX10_formatWitness_22 25 rfl (k' := 0) (n' := 0) rfl rfl (fsI (fun q q1 q2 => (Or.inl (fsH (by omega) (by omega))))) h_mo (fun rv H4 lo4 hM hF hpo => ?_)
    obtain ⟨f1_5, rfl, hp_f_6, hw_0⟩ := hpo
    have h_mo : PR E b (modelW E b (updC (updC mo 0 (updZ (updZ (mo 0) 0 0) 6 (0 + 1))) 2 f1_5)) H4 := hw_0
    show V p l e (rmL 2 0 0) s m args below meth cd Q 2 H4 lo4 0 0 25 [(0, .ref b), (1, .int (zI w))] []
    replace hp_f_6 : LT f1_5 (0 + 1) ([] ++ [119]) := hp_f_6
    refine v_aload_n X dX10_formatWitness_25 26 rfl 0 rfl ?_
    refine v_iload_n X dX10_formatWitness_26 27 rfl 1 rfl ?_
    refine v_muV X hM (h_mo.1) (c_X10_writesNumber_1 l E b (updC (updC mo 0 (updZ (updZ (mo 0) 0 0) 6 (0 + 1))) 2 f1_5) w ([] ++ [119]) (by omega) (by omega) (show 0 ≤ (0 + 1) from (by omega)) (show (0 + 1) < 60 from (by omega)) hp_f_6) kvX10_writesNumber kiX10_writesNumber kl_X10_159 (q0 := 0) rfl rfl (As := [.int (zI w)]) rfl rfl rfl dX10_formatWitness_27 30 rfl (k' := 0) (n' := 0) rfl rfl (fsI (fun q q1 q2 => (Or.inl (fsH (by omega) (by omega))))) h_mo (fun rv H7 lo7 hM hF hpo => ?_)
    obtain ⟨f1_8, rfl, hp_f_9, hw_0⟩ := hpo
    have h_mo : PR E b (modelW E b (updC (updC mo 0 (updZ (updZ (mo 0) 0 0) 6 ((0 + 1) + 1))) 2 f1_8)) H7 := hw_0
    show V p l e (rmL 2 0 0) s m args below meth cd Q 2 H7 lo7 0 0 30 [(0, .ref b), (1, .int (zI w))] []
    replace hp_f_9 : LT f1_8 ((0 + 1) + 1) (([] ++ [119]) ++ [48 + w]) := hp_f_9
    refine v_aload_n X dX10_formatWitness_30 31 rfl 0 rfl ?_
    refine v_bipush X dX10_formatWitness_31 33 rfl rfl ?_
    refine v_muV X hM (h_mo.1) (c_X10_writes l E b (updC (updC mo 0 (updZ (updZ (mo 0) 0 0) 6 ((0 + 1) + 1))) 2 f1_8) 61 (([] ++ [119]) ++ [48 + w]) (show 0 ≤ ((0 + 1) + 1) from (by omega)) (show ((0 + 1) + 1) < 60 from (by omega)) (by omega) (by omega) hp_f_9) kvX10_writes kiX10_writes kl_X10_163 (q0 := 0) rfl rfl (As := [.int (zI 61)]) rfl rfl rfl dX10_formatWitness_33 36 rfl (k' := 0) (n' := 0) rfl rfl (fsI (fun q q1 q2 => (Or.inl (fsH (by omega) (by omega))))) h_mo (fun rv H10 lo10 hM hF hpo => ?_)
    obtain ⟨f1_11, rfl, hp_f_12, hw_0⟩ := hpo
    have h_mo : PR E b (modelW E b (updC (updC mo 0 (updZ (updZ (mo 0) 0 0) 6 (((0 + 1) + 1) + 1))) 2 f1_11)) H10 := hw_0
    show V p l e (rmL 2 0 0) s m args below meth cd Q 2 H10 lo10 0 0 36 [(0, .ref b), (1, .int (zI w))] []
    replace hp_f_12 : LT f1_11 (((0 + 1) + 1) + 1) ((([] ++ [119]) ++ [48 + w]) ++ [61]) := hp_f_12
    refine v_aload_n X dX10_formatWitness_36 37 rfl 0 rfl ?_
    refine v_aload_n X dX10_formatWitness_37 38 rfl 0 rfl ?_
    refine v_getf X hM.C h_mo.1 inX10 0 rfl rfl 1 (by decide) kf_X10_9 (fun _ h => h) rfl dX10_formatWitness_38 41 rfl ?_
    refine v_iconst X dX10_formatWitness_41 42 rfl ?_
    refine v_iload_n X dX10_formatWitness_42 43 rfl 1 rfl ?_
    refine v_iadd X dX10_formatWitness_43 44 rfl ?_
    refine v_iald X hM.C h_mo.1 1 rfl (by omega) (by omega) (by omega) dX10_formatWitness_44 45 rfl ?_
    show V p l e (rmL 2 0 0) s m args below meth cd Q 2 H10 lo10 0 0 45 [(0, .ref b), (1, .int (zI w))] [.int (zI (mo 1 (4 + w))), .ref b]
    refine V_S (st' := [.int (zI (co 11 w)), .ref b]) (by rw [hR.w (by omega) (by omega)]) ?_
    have hb_13 := hO.b11 w
    refine v_muV X hM (h_mo.1) (c_X10_writesNumber_1 l E b (updC (updC mo 0 (updZ (updZ (mo 0) 0 0) 6 (((0 + 1) + 1) + 1))) 2 f1_11) (co 11 w) ((([] ++ [119]) ++ [48 + w]) ++ [61]) (by omega) (by omega) (show 0 ≤ (((0 + 1) + 1) + 1) from (by omega)) (show (((0 + 1) + 1) + 1) < 60 from (by omega)) hp_f_12) kvX10_writesNumber kiX10_writesNumber kl_X10_159 (q0 := 0) rfl rfl (As := [.int (zI (co 11 w))]) rfl rfl rfl dX10_formatWitness_45 48 rfl (k' := 0) (n' := 0) rfl rfl (fsI (fun q q1 q2 => (Or.inl (fsH (by omega) (by omega))))) h_mo (fun rv H14 lo14 hM hF hpo => ?_)
    obtain ⟨f1_15, rfl, hp_f_16, hw_0⟩ := hpo
    have h_mo : PR E b (modelW E b (updC (updC mo 0 (updZ (updZ (mo 0) 0 0) 6 ((((0 + 1) + 1) + 1) + 1))) 2 f1_15)) H14 := hw_0
    show V p l e (rmL 2 0 0) s m args below meth cd Q 2 H14 lo14 0 0 48 [(0, .ref b), (1, .int (zI w))] []
    replace hp_f_16 : LT f1_15 ((((0 + 1) + 1) + 1) + 1) (((([] ++ [119]) ++ [48 + w]) ++ [61]) ++ [48 + (co 11 w)]) := hp_f_16
    refine v_aload_n X dX10_formatWitness_48 49 rfl 0 rfl ?_
    refine v_getf X hM.C h_mo.1 inX10 0 rfl rfl 6 (by decide) kf_X10_156 (fun _ h => h) rfl dX10_formatWitness_49 52 rfl ?_
    show V p l e (rmL 2 0 0) s m args below meth cd Q 2 H14 lo14 0 0 52 [(0, .ref b), (1, .int (zI w))] [.int (zI ((((0 + 1) + 1) + 1) + 1))]
    subst hQ; exact m_iret X hr hlk hM dX10_formatWitness_52 rfl ⟨f1_15, ((((0 + 1) + 1) + 1) + 1), (sv (by omega)), (by show LT _ _ (((([] ++ [119]) ++ [48 + w]) ++ [61]) ++ [48 + (co 11 w)]); exact hp_f_16), (by omega), h_mo⟩
  · skip
    exfalso; omega
set_option maxHeartbeats 4000000 in
set_option maxRecDepth 20000 in
theorem c_X10_formatCase_0 (l : Launch) (E : Nat → Nat → Nat) (b : Nat) (mo : Nat → Int → Int) (co : Nat → Int → Int) (k : Int) (hO : OkC co) (hR : RelC co (mo 1)) (gk : Rg k) (nk : ¬ (0 ≤ k ∧ k < co 0 0)) : Mu l yX10_formatCase cX10_formatCase 4 (some .int) 2 0 0 E [(b, 5)] [.ref b, .int (zI k)] (fun H => PR E b (modelW E b mo) H) (fun rv H => rv = some (.int (zI 0)) ∧ PR E b (modelW E b (updC mo 0 (updZ (mo 0) 0 1))) H) := by
  refine Mu.start (own := RX10) rfl (by decide +kernel) (Nat.le_of_ble_eq_true rfl) ?_
  intro p e s m below meth cd args Q hQ X hr hlk hnm hM hPr
  have h_mo := hPr
  have hb0 := hO.b0
  have hbw := hO.bw
  have hr0 := hR.s0
  have hr1 := hR.s1
  refine v_aload_n X dX10_formatCase_0 1 rfl 0 rfl ?_
  refine v_aload_n X dX10_formatCase_1 2 rfl 0 rfl ?_
  refine v_iload_n X dX10_formatCase_2 3 rfl 1 rfl ?_
  refine v_rdV X hM.C h_mo.1 (c_X10_isCase l E b mo co k hO hR gk) kvX10_isCase kiX10_isCase kl_X10_92 rfl rfl (As := [.int (zI k)]) rfl rfl rfl dX10_formatCase_3 6 rfl ?_
  show V p l e (rmL 2 0 0) s m args below meth cd Q 4 s.heap [] 0 0 6 [(0, .ref b), (1, .int (zI k))] [.int (zI (bz (0 ≤ k ∧ k < co 0 0))), .ref b]
  refine V_S (st' := [.int (zI 0), .ref b]) (by rw [bz_f (φ := 0 ≤ k ∧ k < co 0 0) (by first | omega | assumption)]) ?_
  refine v_muV X hM (h_mo.1) (c_X10_isFine_0 l E b mo) kvX10_isFine kiX10_isFine kl_X10_124 (q0 := 0) rfl rfl (As := [.int (zI 0)]) rfl rfl rfl dX10_formatCase_6 9 rfl (k' := 0) (n' := 0) rfl rfl (fsI (fun q q1 q2 => (Or.inl (fsH (by omega) (by omega))))) h_mo (fun rv H1 lo1 hM hF hpo => ?_)
  obtain ⟨rfl, hw_0⟩ := hpo
  have h_mo : PR E b (modelW E b (updC mo 0 (updZ (mo 0) 0 1))) H1 := hw_0
  show V p l e (rmL 2 0 0) s m args below meth cd Q 4 H1 lo1 0 0 9 [(0, .ref b), (1, .int (zI k))] [.int (zI 0)]
  refine v_if_ne X (by omega) dX10_formatCase_9 12 14 rfl (by decide) (fun c_2 => ?_) (fun c_2 => ?_)
  · skip
    exfalso; omega
  · skip
    refine v_iconst X dX10_formatCase_12 13 rfl ?_
    subst hQ; exact m_iret X hr hlk hM dX10_formatCase_13 rfl ⟨rfl, h_mo⟩
set_option maxHeartbeats 4000000 in
set_option maxRecDepth 20000 in
theorem c_X10_formatWitness_0 (l : Launch) (E : Nat → Nat → Nat) (b : Nat) (mo : Nat → Int → Int) (co : Nat → Int → Int) (w : Int) (hO : OkC co) (hR : RelC co (mo 1)) (gw : Rg w) (nk : ¬ (0 ≤ w ∧ w < co 0 1)) : Mu l yX10_formatWitness cX10_formatWitness 2 (some .int) 2 0 0 E [(b, 5)] [.ref b, .int (zI w)] (fun H => PR E b (modelW E b mo) H) (fun rv H => rv = some (.int (zI 0)) ∧ PR E b (modelW E b (updC mo 0 (updZ (mo 0) 0 1))) H) := by
  refine Mu.start (own := RX10) rfl (by decide +kernel) (Nat.le_of_ble_eq_true rfl) ?_
  intro p e s m below meth cd args Q hQ X hr hlk hnm hM hPr
  have h_mo := hPr
  have hb0 := hO.b0
  have hbw := hO.bw
  have hr0 := hR.s0
  have hr1 := hR.s1
  refine v_aload_n X dX10_formatWitness_0 1 rfl 0 rfl ?_
  refine v_aload_n X dX10_formatWitness_1 2 rfl 0 rfl ?_
  refine v_iload_n X dX10_formatWitness_2 3 rfl 1 rfl ?_
  refine v_rdV X hM.C h_mo.1 (c_X10_isWitness l E b mo co w hO hR gw) kvX10_isWitness kiX10_isWitness kl_X10_95 rfl rfl (As := [.int (zI w)]) rfl rfl rfl dX10_formatWitness_3 6 rfl ?_
  show V p l e (rmL 2 0 0) s m args below meth cd Q 2 s.heap [] 0 0 6 [(0, .ref b), (1, .int (zI w))] [.int (zI (bz (0 ≤ w ∧ w < co 0 1))), .ref b]
  refine V_S (st' := [.int (zI 0), .ref b]) (by rw [bz_f (φ := 0 ≤ w ∧ w < co 0 1) (by first | omega | assumption)]) ?_
  refine v_muV X hM (h_mo.1) (c_X10_isFine_0 l E b mo) kvX10_isFine kiX10_isFine kl_X10_124 (q0 := 0) rfl rfl (As := [.int (zI 0)]) rfl rfl rfl dX10_formatWitness_6 9 rfl (k' := 0) (n' := 0) rfl rfl (fsI (fun q q1 q2 => (Or.inl (fsH (by omega) (by omega))))) h_mo (fun rv H1 lo1 hM hF hpo => ?_)
  obtain ⟨rfl, hw_0⟩ := hpo
  have h_mo : PR E b (modelW E b (updC mo 0 (updZ (mo 0) 0 1))) H1 := hw_0
  show V p l e (rmL 2 0 0) s m args below meth cd Q 2 H1 lo1 0 0 9 [(0, .ref b), (1, .int (zI w))] [.int (zI 0)]
  refine v_if_ne X (by omega) dX10_formatWitness_9 12 14 rfl (by decide) (fun c_2 => ?_) (fun c_2 => ?_)
  · skip
    exfalso; omega
  · skip
    refine v_iconst X dX10_formatWitness_12 13 rfl ?_
    subst hQ; exact m_iret X hr hlk hM dX10_formatWitness_13 rfl ⟨rfl, h_mo⟩
