/-! the reference's reader: the place and the error -/
def sgM (g : Int → Int) (n h : Int) : Int := if h < n then g h else -1
theorem sgM_b (g : Int → Int) (n h : Int) (hcr : ∀ j : Int, 0 ≤ j → j < n → 0 ≤ g j ∧ g j < 128) (h0 : 0 ≤ h) : -1 ≤ sgM g n h ∧ sgM g n h < 128 := by
  unfold sgM
  split
  · have := hcr h h0 (by omega)
    omega
  · omega
theorem sgM_lt {g : Int → Int} {n h : Int} (q : ¬ sgM g n h = -1) : h < n := by
  unfold sgM at q
  split at q
  · assumption
  · exact absurd rfl q
abbrev inS (n : Int) (s : Int × Int) : Prop := (0 ≤ s.1 ∧ s.1 ≤ n) ∧ (-1 ≤ s.2 ∧ s.2 ≤ n)
def nd (g : Int → Int) (n : Int) (s : Int × Int) (c : Int) : Int × Int := if 0 ≤ s.2 then s else if sgM g n s.1 = c then (s.1 + 1, s.2) else (s.1, s.1)
theorem nd_b (g : Int → Int) (n : Int) (s : Int × Int) (c : Int) (h : inS n s) (hc : 0 ≤ c) : inS n (nd g n s c) := by
  unfold nd
  split
  · exact h
  · split
    · rename_i q
      have := sgM_lt (g := g) (n := n) (h := s.1) (by omega)
      dsimp only [inS]
      omega
    · dsimp only [inS]
      omega
abbrev dgt (x : Int) : Prop := 48 ≤ x ∧ x ≤ 57
def nm (g : Int → Int) (n : Int) (s : Int × Int) (d : Int) : Int × (Int × Int) := if 0 ≤ s.2 then (0, s) else if dgt (sgM g n s.1) then (if d = 2 ∧ dgt (sgM g n (s.1 + 1)) then (10 * (sgM g n s.1 - 48) + (sgM g n (s.1 + 1) - 48), (s.1 + 2, s.2)) else (sgM g n s.1 - 48, (s.1 + 1, s.2))) else (0, (s.1, s.1))
theorem nm_b (g : Int → Int) (n : Int) (s : Int × Int) (d : Int) (h : inS n s) : inS n (nm g n s d).2 ∧ 0 ≤ (nm g n s d).1 ∧ (nm g n s d).1 ≤ 99 := by
  unfold nm
  split
  · exact ⟨h, by dsimp only; omega⟩
  · split
    · rename_i q
      have h1 := sgM_lt (g := g) (n := n) (h := s.1) (by omega)
      split
      · rename_i q2
        have h2 := sgM_lt (g := g) (n := n) (h := s.1 + 1) (by omega)
        dsimp only [inS]
        omega
      · dsimp only [inS]
        omega
    · dsimp only [inS]
      omega
def ei (g : Int → Int) (n : Int) (s : Int × Int) (a b : Int) : Int × (Int × Int) := if 0 ≤ s.2 then (0, s) else if sgM g n s.1 = a ∨ sgM g n s.1 = b then (if sgM g n s.1 = a then 1 else 0, (s.1 + 1, s.2)) else (0, (s.1, s.1))
theorem ei_b (g : Int → Int) (n : Int) (s : Int × Int) (a b : Int) (h : inS n s) (ha : 0 ≤ a) (hb : 0 ≤ b) : inS n (ei g n s a b).2 ∧ 0 ≤ (ei g n s a b).1 ∧ (ei g n s a b).1 ≤ 1 := by
  unfold ei
  split
  · exact ⟨h, by dsimp only; omega⟩
  · split
    · rename_i q
      have h1 := sgM_lt (g := g) (n := n) (h := s.1) (by omega)
      dsimp only [inS]
      refine ⟨by omega, ?_⟩
      split <;> omega
    · dsimp only [inS]
      omega
theorem upd_2 {c : Nat → Int → Int} {h e : Int} (e1 : c 0 9 = h) (e2 : c 0 10 = e) : updC c 0 (updZ (updZ (c 0) 9 h) 10 e) = c := by
  subst e1; subst e2
  funext q j
  by_cases hq : q = 0
  · subst hq
    rw [updC_at]
    unfold updZ
    split
    · rename_i z; rw [z]
    · split
      · rename_i z; rw [z]
      · rfl
  · rw [updC_ne _ _ hq]
section LKP
variable {p : Program} {l : Launch} {e : Env} {R : Room} {s : State} {m : MethodId} {args : Array Value} {below : List Frame} {meth : Method} {c : Code} {Q : State → Prop} {nL : Nat} {H : Heap} {locs : List Loc} {k n : Nat} {pc : Nat} {L L' : List (Nat × Value)} {st : List Value} {cc : ByteArray} {own : String} {E : Nat → Nat → Nat}
theorem v_lookup {dflt : Int} {ps : Array (Int × Int)} {len : Nat} {x off : Int} (X : CF p m c cc nL s args own) (hdg : decode cc pc = .ok (.lookupswitch dflt ps, len)) (hp : (ps.toList.zip (ps.toList.drop 1)).all (fun (a, next) => a.1 < next.1) = true) (ho : Op.lookupswitch.offset ps.toList dflt (zI x).toInt = off) (tgt : Nat) (ht : (pc : Int) + off = (tgt : Int)) (kk : V p l e R s m args below meth c Q nL H locs k n tgt L st) : V p l e R s m args below meth c Q nL H locs k n pc L (.int (zI x) :: st) :=
  fun ls hl => lv_lookup X.1 X.2.1 hdg hp ho ht (kk ls hl)
end LKP
set_option maxHeartbeats 4000000 in
set_option maxRecDepth 20000 in
theorem c_X10_sign (l : Launch) (E : Nat → Nat → Nat) (b : Nat) (mo : Nat → Int → Int) (sp : Int × Int) (hcr : ∀ j : Int, 0 ≤ j → j < mo 0 8 → 0 ≤ mo 3 j ∧ mo 3 j < 128) (hn : 0 ≤ mo 0 8 ∧ mo 0 8 ≤ 60) (e9 : mo 0 9 = sp.1) (bs : inS (mo 0 8) sp) : Rd l yX10_sign cX10_sign 1 (some .int) 0 E [.ref b] (modelW E b mo) (some (.int (zI (sgM (mo 3) (mo 0 8) sp.1)))) := by
  refine Rd.start (own := RX10) rfl (by decide +kernel) (Nat.le_of_ble_eq_true rfl) ?_
  intro p e s m below meth cd args Q hQ X hr hlk hC hP
  have h_mo := hP
  have hbs := bs
  dsimp only [inS] at hbs
  refine v_aload_n X dX10_sign_0 1 rfl 0 rfl ?_
  refine v_getf X hC h_mo inX10 0 rfl rfl 9 (by decide) kf_X10_169 (fun _ h => h) rfl dX10_sign_1 4 rfl ?_
  show V p l e (rmL 0 0 0) s m args below meth cd Q 1 s.heap [] 0 0 4 [(0, .ref b)] [.int (zI (mo 0 9))]
  refine v_aload_n X dX10_sign_4 5 rfl 0 rfl ?_
  refine v_getf X hC h_mo inX10 0 rfl rfl 8 (by decide) kf_X10_166 (fun _ h => h) rfl dX10_sign_5 8 rfl ?_
  show V p l e (rmL 0 0 0) s m args below meth cd Q 1 s.heap [] 0 0 8 [(0, .ref b)] [.int (zI (mo 0 8)), .int (zI (mo 0 9))]
  refine v_icmp_ge X (by omega) (by omega) dX10_sign_8 11 23 rfl (by decide) (fun c_1 => ?_) (fun c_1 => ?_)
  · skip
    refine v_iconst X dX10_sign_23 24 rfl ?_
    subst hQ; exact v_iret0 X hr hlk dX10_sign_24 (by unfold sgM; first | (rw [if_pos (by omega), e9]; done) | rw [if_neg (by omega)])
  · skip
    refine v_aload_n X dX10_sign_11 12 rfl 0 rfl ?_
    refine v_getf X hC h_mo inX10 0 rfl rfl 7 (by decide) kf_X10_17 (fun _ h => h) rfl dX10_sign_12 15 rfl ?_
    refine v_aload_n X dX10_sign_15 16 rfl 0 rfl ?_
    refine v_getf X hC h_mo inX10 0 rfl rfl 9 (by decide) kf_X10_169 (fun _ h => h) rfl dX10_sign_16 19 rfl ?_
    show V p l e (rmL 0 0 0) s m args below meth cd Q 1 s.heap [] 0 0 19 [(0, .ref b)] [.int (zI (mo 0 9)), .ref (b + 3)]
    refine v_cald X hC h_mo 3 rfl (by omega) (by omega) (by omega) dX10_sign_19 20 rfl ?_
    show V p l e (rmL 0 0 0) s m args below meth cd Q 1 s.heap [] 0 0 20 [(0, .ref b)] [.int (zI (mo 3 (mo 0 9)))]
    refine v_goto X dX10_sign_20 24 (by decide) ?_
    subst hQ; exact v_iret0 X hr hlk dX10_sign_24 (by unfold sgM; first | (rw [if_pos (by omega), e9]; done) | rw [if_neg (by omega)])
set_option maxHeartbeats 4000000 in
set_option maxRecDepth 20000 in
theorem c_X10_needs (l : Launch) (E : Nat → Nat → Nat) (b : Nat) (mo : Nat → Int → Int) (sp : Int × Int) (c : Int) (hcr : ∀ j : Int, 0 ≤ j → j < mo 0 8 → 0 ≤ mo 3 j ∧ mo 3 j < 128) (hn : 0 ≤ mo 0 8 ∧ mo 0 8 ≤ 60) (e9 : mo 0 9 = sp.1) (e10 : mo 0 10 = sp.2) (bs : inS (mo 0 8) sp) (gc : 0 ≤ c ∧ c < 128) : Mu l yX10_needs cX10_needs 2 none 1 0 0 E [(b, 5)] [.ref b, .int (zI c)] (fun H => PR E b (modelW E b mo) H) (fun rv H => rv = none ∧ PR E b (modelW E b (updC mo 0 (updZ (updZ (mo 0) 9 ((nd (mo 3) (mo 0 8) sp c).1)) 10 ((nd (mo 3) (mo 0 8) sp c).2)))) H) := by
  refine Mu.start (own := RX10) rfl (by decide +kernel) (Nat.le_of_ble_eq_true rfl) ?_
  intro p e s m below meth cd args Q hQ X hr hlk hnm hM hPr
  have h_mo := hPr
  have hbs := bs
  dsimp only [inS] at hbs
  replace h_mo : PR E b (modelW E b (updC mo 0 (updZ (updZ (mo 0) 9 sp.1) 10 sp.2))) s.heap := PR.to h_mo (by rw [upd_2 e9 e10])
  refine v_aload_n X dX10_needs_0 1 rfl 0 rfl ?_
  refine v_getf X hM.C h_mo.1 inX10 0 rfl rfl 10 (by decide) kf_X10_172 (fun _ h => h) rfl dX10_needs_1 4 rfl ?_
  show V p l e (rmL 1 0 0) s m args below meth cd Q 2 s.heap [] 0 0 4 [(0, .ref b), (1, .int (zI c))] [.int (zI sp.2)]
  refine v_if_lt X (by omega) dX10_needs_4 7 8 rfl (by decide) (fun c_1 => ?_) (fun c_1 => ?_)
  · skip
    refine v_aload_n X dX10_needs_8 9 rfl 0 rfl ?_
    refine v_rdV X hM.C h_mo.1 (c_X10_sign l E b (updC mo 0 (updZ (updZ (mo 0) 9 sp.1) 10 sp.2)) sp hcr hn (by first | rfl | assumption) bs) kvX10_sign kiX10_sign kl_X10_175 rfl rfl (As := []) rfl rfl rfl dX10_needs_9 12 rfl ?_
    show V p l e (rmL 1 0 0) s m args below meth cd Q 2 s.heap [] 0 0 12 [(0, .ref b), (1, .int (zI c))] [.int (zI (sgM (mo 3) (mo 0 8) sp.1))]
    have hf_2 := sgM_b ((mo 3)) (mo 0 8) sp.1 hcr (by first | omega | (dsimp only; omega))
    refine v_iload_n X dX10_needs_12 13 rfl 1 rfl ?_
    refine v_icmp_eq X (by omega) (by omega) dX10_needs_13 16 25 rfl (by decide) (fun c_3 => ?_) (fun c_3 => ?_)
    · skip
      refine v_aload_n X dX10_needs_25 26 rfl 0 rfl ?_
      refine v_dup X dX10_needs_26 27 rfl rfl ?_
      refine v_getf X hM.C h_mo.1 inX10 0 rfl rfl 9 (by decide) kf_X10_169 (fun _ h => h) rfl dX10_needs_27 30 rfl ?_
      show V p l e (rmL 1 0 0) s m args below meth cd Q 2 s.heap [] 0 0 30 [(0, .ref b), (1, .int (zI c))] [.int (zI sp.1), .ref b]
      refine v_iconst X dX10_needs_30 31 rfl ?_
      refine v_iadd X dX10_needs_31 32 rfl ?_
      refine v_putf X hM h_mo ftX10 0 rfl rfl 9 (by decide) kf_X10_169 (fun _ h => h) rfl rfl rfl (Nat.le_of_ble_eq_true rfl) (Or.inl (fsH (by omega) (by omega))) dX10_needs_32 35 rfl (ws' := modelW E b (updC mo 0 (updZ (updZ (mo 0) 9 (sp.1 + 1)) 10 sp.2))) rfl (fun H4 lo4 hzz hM hF h_mo => ?_)
      clear hzz
      subst hQ; exact m_vret X hr hlk hM dX10_needs_35 rfl ⟨rfl, (PR.to h_mo (by rw [show nd (mo 3) (mo 0 8) sp c = (sp.1 + 1, sp.2) by unfold nd; first | (rw [if_pos (by omega)]; done) | (rw [if_neg (by omega), if_pos (by omega)]; done) | (rw [if_neg (by omega), if_neg (by omega)]; done)]))⟩
    · skip
      refine v_aload_n X dX10_needs_16 17 rfl 0 rfl ?_
      refine v_aload_n X dX10_needs_17 18 rfl 0 rfl ?_
      refine v_getf X hM.C h_mo.1 inX10 0 rfl rfl 9 (by decide) kf_X10_169 (fun _ h => h) rfl dX10_needs_18 21 rfl ?_
      show V p l e (rmL 1 0 0) s m args below meth cd Q 2 s.heap [] 0 0 21 [(0, .ref b), (1, .int (zI c))] [.int (zI sp.1), .ref b]
      refine v_putf X hM h_mo ftX10 0 rfl rfl 10 (by decide) kf_X10_172 (fun _ h => h) rfl rfl rfl (Nat.le_of_ble_eq_true rfl) (Or.inl (fsH (by omega) (by omega))) dX10_needs_21 24 rfl (ws' := modelW E b (updC mo 0 (updZ (updZ (mo 0) 9 sp.1) 10 sp.1))) rfl (fun H5 lo5 hzz hM hF h_mo => ?_)
      clear hzz
      subst hQ; exact m_vret X hr hlk hM dX10_needs_24 rfl ⟨rfl, (PR.to h_mo (by rw [show nd (mo 3) (mo 0 8) sp c = (sp.1, sp.1) by unfold nd; first | (rw [if_pos (by omega)]; done) | (rw [if_neg (by omega), if_pos (by omega)]; done) | (rw [if_neg (by omega), if_neg (by omega)]; done)]))⟩
  · skip
    subst hQ; exact m_vret X hr hlk hM dX10_needs_7 rfl ⟨rfl, (PR.to h_mo (by rw [show nd (mo 3) (mo 0 8) sp c = (sp.1, sp.2) by unfold nd; first | (rw [if_pos (by omega)]; done) | (rw [if_neg (by omega), if_pos (by omega)]; done) | (rw [if_neg (by omega), if_neg (by omega)]; done)]))⟩
set_option maxHeartbeats 4000000 in
set_option maxRecDepth 20000 in
theorem c_X10_letters (l : Launch) (E : Nat → Nat → Nat) (b : Nat) (mo : Nat → Int → Int) (sp : Int × Int) (x : Int) (y : Int) (z : Int) (hcr : ∀ j : Int, 0 ≤ j → j < mo 0 8 → 0 ≤ mo 3 j ∧ mo 3 j < 128) (hn : 0 ≤ mo 0 8 ∧ mo 0 8 ≤ 60) (e9 : mo 0 9 = sp.1) (e10 : mo 0 10 = sp.2) (bs : inS (mo 0 8) sp) (gx : 0 ≤ x ∧ x < 128) (gy : 0 ≤ y ∧ y < 128) (gz : 0 ≤ z ∧ z < 128) : Mu l yX10_letters cX10_letters 4 none 2 0 0 E [(b, 5)] [.ref b, .int (zI x), .int (zI y), .int (zI z)] (fun H => PR E b (modelW E b mo) H) (fun rv H => rv = none ∧ PR E b (modelW E b (updC mo 0 (updZ (updZ (mo 0) 9 ((nd (mo 3) (mo 0 8) (nd (mo 3) (mo 0 8) (nd (mo 3) (mo 0 8) sp x) y) z).1)) 10 ((nd (mo 3) (mo 0 8) (nd (mo 3) (mo 0 8) (nd (mo 3) (mo 0 8) sp x) y) z).2)))) H) := by
  refine Mu.start (own := RX10) rfl (by decide +kernel) (Nat.le_of_ble_eq_true rfl) ?_
  intro p e s m below meth cd args Q hQ X hr hlk hnm hM hPr
  have h_mo := hPr
  have hbs := bs
  dsimp only [inS] at hbs
  replace h_mo : PR E b (modelW E b (updC mo 0 (updZ (updZ (mo 0) 9 sp.1) 10 sp.2))) s.heap := PR.to h_mo (by rw [upd_2 e9 e10])
  refine v_aload_n X dX10_letters_0 1 rfl 0 rfl ?_
  refine v_iload_n X dX10_letters_1 2 rfl 1 rfl ?_
  refine v_muV X hM (h_mo.1) (c_X10_needs l E b (updC mo 0 (updZ (updZ (mo 0) 9 sp.1) 10 sp.2)) sp x hcr hn (by first | rfl | assumption) (by first | rfl | assumption) bs gx) kvX10_needs kiX10_needs kl_X10_179 (q0 := 0) rfl rfl (As := [.int (zI x)]) rfl rfl rfl dX10_letters_2 5 rfl (k' := 0) (n' := 0) rfl rfl (fsI (fun q q1 q2 => (Or.inl (fsH (by omega) (by omega))))) h_mo (fun rv H1 lo1 hM hF hpo => ?_)
  obtain ⟨rfl, hw_0⟩ := hpo
  have h_mo : PR E b (modelW E b (updC mo 0 (updZ (updZ (mo 0) 9 ((nd ((mo 3)) (mo 0 8) sp x).1)) 10 ((nd ((mo 3)) (mo 0 8) sp x).2)))) H1 := hw_0
  show V p l e (rmL 2 0 0) s m args below meth cd Q 4 H1 lo1 0 0 5 [(0, .ref b), (1, .int (zI x)), (2, .int (zI y)), (3, .int (zI z))] []
  have hf_2 := nd_b ((mo 3)) (mo 0 8) (sp) (x) (by first | assumption | (dsimp only [inS]; omega)) (by omega)
  refine v_aload_n X dX10_letters_5 6 rfl 0 rfl ?_
  refine v_iload_n X dX10_letters_6 7 rfl 2 rfl ?_
  refine v_muV X hM (h_mo.1) (c_X10_needs l E b (updC mo 0 (updZ (updZ (mo 0) 9 ((nd ((mo 3)) (mo 0 8) sp x).1)) 10 ((nd ((mo 3)) (mo 0 8) sp x).2))) (nd (mo 3) (mo 0 8) sp x) y hcr hn (by first | rfl | assumption) (by first | rfl | assumption) (show inS (mo 0 8) (nd (mo 3) (mo 0 8) sp x) from (by first | assumption | (dsimp only [inS]; omega))) gy) kvX10_needs kiX10_needs kl_X10_179 (q0 := 0) rfl rfl (As := [.int (zI y)]) rfl rfl rfl dX10_letters_7 10 rfl (k' := 0) (n' := 0) rfl rfl (fsI (fun q q1 q2 => (Or.inl (fsH (by omega) (by omega))))) h_mo (fun rv H3 lo3 hM hF hpo => ?_)
  obtain ⟨rfl, hw_0⟩ := hpo
  have h_mo : PR E b (modelW E b (updC mo 0 (updZ (updZ (mo 0) 9 ((nd ((mo 3)) (mo 0 8) (nd (mo 3) (mo 0 8) sp x) y).1)) 10 ((nd ((mo 3)) (mo 0 8) (nd (mo 3) (mo 0 8) sp x) y).2)))) H3 := hw_0
  show V p l e (rmL 2 0 0) s m args below meth cd Q 4 H3 lo3 0 0 10 [(0, .ref b), (1, .int (zI x)), (2, .int (zI y)), (3, .int (zI z))] []
  have hf_4 := nd_b ((mo 3)) (mo 0 8) ((nd (mo 3) (mo 0 8) sp x)) (y) (by first | assumption | (dsimp only [inS]; omega)) (by omega)
  refine v_aload_n X dX10_letters_10 11 rfl 0 rfl ?_
  refine v_iload_n X dX10_letters_11 12 rfl 3 rfl ?_
  refine v_muV X hM (h_mo.1) (c_X10_needs l E b (updC mo 0 (updZ (updZ (mo 0) 9 ((nd ((mo 3)) (mo 0 8) (nd (mo 3) (mo 0 8) sp x) y).1)) 10 ((nd ((mo 3)) (mo 0 8) (nd (mo 3) (mo 0 8) sp x) y).2))) (nd (mo 3) (mo 0 8) (nd (mo 3) (mo 0 8) sp x) y) z hcr hn (by first | rfl | assumption) (by first | rfl | assumption) (show inS (mo 0 8) (nd (mo 3) (mo 0 8) (nd (mo 3) (mo 0 8) sp x) y) from (by first | assumption | (dsimp only [inS]; omega))) gz) kvX10_needs kiX10_needs kl_X10_179 (q0 := 0) rfl rfl (As := [.int (zI z)]) rfl rfl rfl dX10_letters_12 15 rfl (k' := 0) (n' := 0) rfl rfl (fsI (fun q q1 q2 => (Or.inl (fsH (by omega) (by omega))))) h_mo (fun rv H5 lo5 hM hF hpo => ?_)
  obtain ⟨rfl, hw_0⟩ := hpo
  have h_mo : PR E b (modelW E b (updC mo 0 (updZ (updZ (mo 0) 9 ((nd ((mo 3)) (mo 0 8) (nd (mo 3) (mo 0 8) (nd (mo 3) (mo 0 8) sp x) y) z).1)) 10 ((nd ((mo 3)) (mo 0 8) (nd (mo 3) (mo 0 8) (nd (mo 3) (mo 0 8) sp x) y) z).2)))) H5 := hw_0
  show V p l e (rmL 2 0 0) s m args below meth cd Q 4 H5 lo5 0 0 15 [(0, .ref b), (1, .int (zI x)), (2, .int (zI y)), (3, .int (zI z))] []
  have hf_6 := nd_b ((mo 3)) (mo 0 8) ((nd (mo 3) (mo 0 8) (nd (mo 3) (mo 0 8) sp x) y)) (z) (by first | assumption | (dsimp only [inS]; omega)) (by omega)
  subst hQ; exact m_vret X hr hlk hM dX10_letters_15 rfl ⟨rfl, h_mo⟩
set_option maxHeartbeats 4000000 in
set_option maxRecDepth 20000 in
theorem c_X10_number_1 (l : Launch) (E : Nat → Nat → Nat) (b : Nat) (mo : Nat → Int → Int) (sp : Int × Int) (hcr : ∀ j : Int, 0 ≤ j → j < mo 0 8 → 0 ≤ mo 3 j ∧ mo 3 j < 128) (hn : 0 ≤ mo 0 8 ∧ mo 0 8 ≤ 60) (e9 : mo 0 9 = sp.1) (e10 : mo 0 10 = sp.2) (bs : inS (mo 0 8) sp) : Mu l yX10_number cX10_number 4 (some .int) 1 0 0 E [(b, 5)] [.ref b, .int (zI 1)] (fun H => PR E b (modelW E b mo) H) (fun rv H => rv = some (.int (zI ((nm (mo 3) (mo 0 8) sp 1).1))) ∧ PR E b (modelW E b (updC mo 0 (updZ (updZ (mo 0) 9 (((nm (mo 3) (mo 0 8) sp 1).2).1)) 10 (((nm (mo 3) (mo 0 8) sp 1).2).2)))) H) := by
  refine Mu.start (own := RX10) rfl (by decide +kernel) (Nat.le_of_ble_eq_true rfl) ?_
  intro p e s m below meth cd args Q hQ X hr hlk hnm hM hPr
  have h_mo := hPr
  have hbs := bs
  dsimp only [inS] at hbs
  replace h_mo : PR E b (modelW E b (updC mo 0 (updZ (updZ (mo 0) 9 sp.1) 10 sp.2))) s.heap := PR.to h_mo (by rw [upd_2 e9 e10])
  refine v_aload_n X dX10_number_0 1 rfl 0 rfl ?_
  refine v_getf X hM.C h_mo.1 inX10 0 rfl rfl 10 (by decide) kf_X10_172 (fun _ h => h) rfl dX10_number_1 4 rfl ?_
  show V p l e (rmL 1 0 0) s m args below meth cd Q 4 s.heap [] 0 0 4 [(0, .ref b), (1, .int (zI 1))] [.int (zI sp.2)]
  refine v_if_lt X (by omega) dX10_number_4 7 9 rfl (by decide) (fun c_1 => ?_) (fun c_1 => ?_)
  · skip
    refine v_aload_n X dX10_number_9 10 rfl 0 rfl ?_
    refine v_rdV X hM.C h_mo.1 (c_X10_sign l E b (updC mo 0 (updZ (updZ (mo 0) 9 sp.1) 10 sp.2)) sp hcr hn (by first | rfl | assumption) bs) kvX10_sign kiX10_sign kl_X10_175 rfl rfl (As := []) rfl rfl rfl dX10_number_10 13 rfl ?_
    show V p l e (rmL 1 0 0) s m args below meth cd Q 4 s.heap [] 0 0 13 [(0, .ref b), (1, .int (zI 1))] [.int (zI (sgM (mo 3) (mo 0 8) sp.1))]
    have hf_2 := sgM_b ((mo 3)) (mo 0 8) sp.1 hcr (by first | omega | (dsimp only; omega))
    refine v_bipush X dX10_number_13 15 rfl rfl ?_
    refine v_bipush X dX10_number_15 17 rfl rfl ?_
    refine v_rdS X hM.C (ws0 E s.heap) (c_X10_in l E (sgM (mo 3) (mo 0 8) sp.1) 48 57 (by omega) (by omega) (by omega)) kvX10_in ksX10_in kl_X10_43 (As := [.int (zI (sgM (mo 3) (mo 0 8) sp.1)), .int (zI 48), .int (zI 57)]) rfl rfl rfl dX10_number_17 20 rfl ?_
    show V p l e (rmL 1 0 0) s m args below meth cd Q 4 s.heap [] 0 0 20 [(0, .ref b), (1, .int (zI 1))] [.int (zI (bz (48 ≤ (sgM (mo 3) (mo 0 8) sp.1) ∧ (sgM (mo 3) (mo 0 8) sp.1) ≤ 57)))]
    refine v_bif_ne X dX10_number_20 23 33 rfl (by decide) (fun c_3 => ?_) (fun c_3 => ?_)
    · skip
      have hlt := sgM_lt (g := mo 3) (n := mo 0 8) (h := sp.1) (by omega)
      refine v_iconst X dX10_number_33 34 rfl ?_
      refine v_istore_n X dX10_number_34 35 rfl rfl (by decide) (L' := [(2, .int (zI 0)), (0, .ref b), (1, .int (zI 1))]) rfl ?_
      refine v_iconst X dX10_number_35 36 rfl ?_
      refine v_istore_n X dX10_number_36 37 rfl rfl (by decide) (L' := [(3, .int (zI 0)), (2, .int (zI 0)), (0, .ref b), (1, .int (zI 1))]) rfl ?_
      refine v_iload_n X dX10_number_37 38 rfl 0 rfl ?_
      refine v_iload_n X dX10_number_38 39 rfl 3 rfl ?_
      refine v_icmp_ge X (by omega) (by omega) dX10_number_39 42 85 rfl (by decide) (fun c_4 => ?_) (fun c_4 => ?_)
      · skip
        exfalso; omega
      · skip
        refine v_aload_n X dX10_number_42 43 rfl 2 rfl ?_
        refine v_rdV X hM.C h_mo.1 (c_X10_sign l E b (updC mo 0 (updZ (updZ (mo 0) 9 sp.1) 10 sp.2)) sp hcr hn (by first | rfl | assumption) bs) kvX10_sign kiX10_sign kl_X10_175 rfl rfl (As := []) rfl rfl rfl dX10_number_43 46 rfl ?_
        show V p l e (rmL 1 0 0) s m args below meth cd Q 4 s.heap [] 0 0 46 [(3, .int (zI 0)), (2, .int (zI 0)), (0, .ref b), (1, .int (zI 1))] [.int (zI (sgM (mo 3) (mo 0 8) sp.1))]
        have hf_5 := sgM_b ((mo 3)) (mo 0 8) sp.1 hcr (by first | omega | (dsimp only; omega))
        refine v_bipush X dX10_number_46 48 rfl rfl ?_
        refine v_bipush X dX10_number_48 50 rfl rfl ?_
        refine v_rdS X hM.C (ws0 E s.heap) (c_X10_in l E (sgM (mo 3) (mo 0 8) sp.1) 48 57 (by omega) (by omega) (by omega)) kvX10_in ksX10_in kl_X10_43 (As := [.int (zI (sgM (mo 3) (mo 0 8) sp.1)), .int (zI 48), .int (zI 57)]) rfl rfl rfl dX10_number_50 53 rfl ?_
        show V p l e (rmL 1 0 0) s m args below meth cd Q 4 s.heap [] 0 0 53 [(3, .int (zI 0)), (2, .int (zI 0)), (0, .ref b), (1, .int (zI 1))] [.int (zI (bz (48 ≤ (sgM (mo 3) (mo 0 8) sp.1) ∧ (sgM (mo 3) (mo 0 8) sp.1) ≤ 57)))]
        refine v_bif_eq X dX10_number_53 56 85 rfl (by decide) (fun c_6 => ?_) (fun c_6 => ?_)
        · skip
          refine v_iload_n X dX10_number_85 86 rfl 1 rfl ?_
          have hnm : nm (mo 3) (mo 0 8) sp 1 = (0, (sp.1, sp.2)) := by unfold nm; first | (rw [if_pos (by omega)]; done) | (rw [if_neg (by omega), if_neg (by dsimp only [dgt]; omega)]; done) | (rw [if_neg (by omega), if_pos (by dsimp only [dgt]; omega), if_pos (by dsimp only [dgt]; omega)]; done) | (rw [if_neg (by omega), if_pos (by dsimp only [dgt]; omega), if_neg (by dsimp only [dgt]; omega)]; done)
          subst hQ; exact m_iret X hr hlk hM dX10_number_86 rfl ⟨(sv (by rw [hnm]; first | done | omega | (dsimp only; omega))), (PR.to h_mo (by rw [hnm]))⟩
        · skip
          refine v_bipush X dX10_number_56 58 rfl rfl ?_
          refine v_iload_n X dX10_number_58 59 rfl 1 rfl ?_
          refine v_imul X dX10_number_59 60 rfl ?_
          refine v_aload_n X dX10_number_60 61 rfl 2 rfl ?_
          refine v_rdV X hM.C h_mo.1 (c_X10_sign l E b (updC mo 0 (updZ (updZ (mo 0) 9 sp.1) 10 sp.2)) sp hcr hn (by first | rfl | assumption) bs) kvX10_sign kiX10_sign kl_X10_175 rfl rfl (As := []) rfl rfl rfl dX10_number_61 64 rfl ?_
          show V p l e (rmL 1 0 0) s m args below meth cd Q 4 s.heap [] 0 0 64 [(3, .int (zI 0)), (2, .int (zI 0)), (0, .ref b), (1, .int (zI 1))] [.int (zI (sgM (mo 3) (mo 0 8) sp.1)), .int (zI (10 * 0))]
          have hf_7 := sgM_b ((mo 3)) (mo 0 8) sp.1 hcr (by first | omega | (dsimp only; omega))
          refine v_iadd X dX10_number_64 65 rfl ?_
          refine v_bipush X dX10_number_65 67 rfl rfl ?_
          refine v_isub X dX10_number_67 68 rfl ?_
          refine v_istore_n X dX10_number_68 69 rfl rfl (by decide) (L' := [(2, .int (zI (10 * 0 + sgM (mo 3) (mo 0 8) sp.1 - 48))), (3, .int (zI 0)), (0, .ref b), (1, .int (zI 1))]) rfl ?_
          refine v_aload_n X dX10_number_69 70 rfl 2 rfl ?_
          refine v_dup X dX10_number_70 71 rfl rfl ?_
          refine v_getf X hM.C h_mo.1 inX10 0 rfl rfl 9 (by decide) kf_X10_169 (fun _ h => h) rfl dX10_number_71 74 rfl ?_
          show V p l e (rmL 1 0 0) s m args below meth cd Q 4 s.heap [] 0 0 74 [(2, .int (zI (10 * 0 + sgM (mo 3) (mo 0 8) sp.1 - 48))), (3, .int (zI 0)), (0, .ref b), (1, .int (zI 1))] [.int (zI sp.1), .ref b]
          refine v_iconst X dX10_number_74 75 rfl ?_
          refine v_iadd X dX10_number_75 76 rfl ?_
          refine v_putf X hM h_mo ftX10 0 rfl rfl 9 (by decide) kf_X10_169 (fun _ h => h) rfl rfl rfl (Nat.le_of_ble_eq_true rfl) (Or.inl (fsH (by omega) (by omega))) dX10_number_76 79 rfl (ws' := modelW E b (updC mo 0 (updZ (updZ (mo 0) 9 (sp.1 + 1)) 10 sp.2))) rfl (fun H8 lo8 hzz hM hF h_mo => ?_)
          clear hzz
          refine v_iinc X dX10_number_79 82 rfl 1 rfl (by decide) (L' := [(3, .int (zI (0 + 1))), (2, .int (zI (10 * 0 + sgM (mo 3) (mo 0 8) sp.1 - 48))), (0, .ref b), (1, .int (zI 1))]) rfl ?_
          refine v_goto X dX10_number_82 37 (by decide) ?_
          refine V_L (L' := [(3, .int (zI 1)), (2, .int (zI (10 * 0 + sgM (mo 3) (mo 0 8) sp.1 - 48))), (0, .ref b), (1, .int (zI 1))]) (LC (vz (by omega)) (LC rfl (LC rfl (LC rfl rfl)))) ?_
          refine v_iload_n X dX10_number_37 38 rfl 0 rfl ?_
          refine v_iload_n X dX10_number_38 39 rfl 3 rfl ?_
          refine v_icmp_ge X (by omega) (by omega) dX10_number_39 42 85 rfl (by decide) (fun c_9 => ?_) (fun c_9 => ?_)
          · skip
            refine v_iload_n X dX10_number_85 86 rfl 1 rfl ?_
            have hnm : nm (mo 3) (mo 0 8) sp 1 = (sgM (mo 3) (mo 0 8) sp.1 - 48, (sp.1 + 1, sp.2)) := by unfold nm; first | (rw [if_pos (by omega)]; done) | (rw [if_neg (by omega), if_neg (by dsimp only [dgt]; omega)]; done) | (rw [if_neg (by omega), if_pos (by dsimp only [dgt]; omega), if_pos (by dsimp only [dgt]; omega)]; done) | (rw [if_neg (by omega), if_pos (by dsimp only [dgt]; omega), if_neg (by dsimp only [dgt]; omega)]; done)
            subst hQ; exact m_iret X hr hlk hM dX10_number_86 rfl ⟨(sv (by rw [hnm]; first | done | omega | (dsimp only; omega))), (PR.to h_mo (by rw [hnm]))⟩
          · skip
            exfalso; omega
    · skip
      refine v_aload_n X dX10_number_23 24 rfl 0 rfl ?_
      refine v_aload_n X dX10_number_24 25 rfl 0 rfl ?_
      refine v_getf X hM.C h_mo.1 inX10 0 rfl rfl 9 (by decide) kf_X10_169 (fun _ h => h) rfl dX10_number_25 28 rfl ?_
      show V p l e (rmL 1 0 0) s m args below meth cd Q 4 s.heap [] 0 0 28 [(0, .ref b), (1, .int (zI 1))] [.int (zI sp.1), .ref b]
      refine v_putf X hM h_mo ftX10 0 rfl rfl 10 (by decide) kf_X10_172 (fun _ h => h) rfl rfl rfl (Nat.le_of_ble_eq_true rfl) (Or.inl (fsH (by omega) (by omega))) dX10_number_28 31 rfl (ws' := modelW E b (updC mo 0 (updZ (updZ (mo 0) 9 sp.1) 10 sp.1))) rfl (fun H10 lo10 hzz hM hF h_mo => ?_)
      clear hzz
      refine v_iconst X dX10_number_31 32 rfl ?_
      have hnm : nm (mo 3) (mo 0 8) sp 1 = (0, (sp.1, sp.1)) := by unfold nm; first | (rw [if_pos (by omega)]; done) | (rw [if_neg (by omega), if_neg (by dsimp only [dgt]; omega)]; done) | (rw [if_neg (by omega), if_pos (by dsimp only [dgt]; omega), if_pos (by dsimp only [dgt]; omega)]; done) | (rw [if_neg (by omega), if_pos (by dsimp only [dgt]; omega), if_neg (by dsimp only [dgt]; omega)]; done)
      subst hQ; exact m_iret X hr hlk hM dX10_number_32 rfl ⟨(sv (by rw [hnm]; first | done | omega | (dsimp only; omega))), (PR.to h_mo (by rw [hnm]))⟩
  · skip
    refine v_iconst X dX10_number_7 8 rfl ?_
    have hnm : nm (mo 3) (mo 0 8) sp 1 = (0, (sp.1, sp.2)) := by unfold nm; first | (rw [if_pos (by omega)]; done) | (rw [if_neg (by omega), if_neg (by dsimp only [dgt]; omega)]; done) | (rw [if_neg (by omega), if_pos (by dsimp only [dgt]; omega), if_pos (by dsimp only [dgt]; omega)]; done) | (rw [if_neg (by omega), if_pos (by dsimp only [dgt]; omega), if_neg (by dsimp only [dgt]; omega)]; done)
    subst hQ; exact m_iret X hr hlk hM dX10_number_8 rfl ⟨(sv (by rw [hnm]; first | done | omega | (dsimp only; omega))), (PR.to h_mo (by rw [hnm]))⟩
set_option maxHeartbeats 4000000 in
set_option maxRecDepth 20000 in
theorem c_X10_number_2 (l : Launch) (E : Nat → Nat → Nat) (b : Nat) (mo : Nat → Int → Int) (sp : Int × Int) (hcr : ∀ j : Int, 0 ≤ j → j < mo 0 8 → 0 ≤ mo 3 j ∧ mo 3 j < 128) (hn : 0 ≤ mo 0 8 ∧ mo 0 8 ≤ 60) (e9 : mo 0 9 = sp.1) (e10 : mo 0 10 = sp.2) (bs : inS (mo 0 8) sp) : Mu l yX10_number cX10_number 4 (some .int) 1 0 0 E [(b, 5)] [.ref b, .int (zI 2)] (fun H => PR E b (modelW E b mo) H) (fun rv H => rv = some (.int (zI ((nm (mo 3) (mo 0 8) sp 2).1))) ∧ PR E b (modelW E b (updC mo 0 (updZ (updZ (mo 0) 9 (((nm (mo 3) (mo 0 8) sp 2).2).1)) 10 (((nm (mo 3) (mo 0 8) sp 2).2).2)))) H) := by
  refine Mu.start (own := RX10) rfl (by decide +kernel) (Nat.le_of_ble_eq_true rfl) ?_
  intro p e s m below meth cd args Q hQ X hr hlk hnm hM hPr
  have h_mo := hPr
  have hbs := bs
  dsimp only [inS] at hbs
  replace h_mo : PR E b (modelW E b (updC mo 0 (updZ (updZ (mo 0) 9 sp.1) 10 sp.2))) s.heap := PR.to h_mo (by rw [upd_2 e9 e10])
  refine v_aload_n X dX10_number_0 1 rfl 0 rfl ?_
  refine v_getf X hM.C h_mo.1 inX10 0 rfl rfl 10 (by decide) kf_X10_172 (fun _ h => h) rfl dX10_number_1 4 rfl ?_
  show V p l e (rmL 1 0 0) s m args below meth cd Q 4 s.heap [] 0 0 4 [(0, .ref b), (1, .int (zI 2))] [.int (zI sp.2)]
  refine v_if_lt X (by omega) dX10_number_4 7 9 rfl (by decide) (fun c_1 => ?_) (fun c_1 => ?_)
  · skip
    refine v_aload_n X dX10_number_9 10 rfl 0 rfl ?_
    refine v_rdV X hM.C h_mo.1 (c_X10_sign l E b (updC mo 0 (updZ (updZ (mo 0) 9 sp.1) 10 sp.2)) sp hcr hn (by first | rfl | assumption) bs) kvX10_sign kiX10_sign kl_X10_175 rfl rfl (As := []) rfl rfl rfl dX10_number_10 13 rfl ?_
    show V p l e (rmL 1 0 0) s m args below meth cd Q 4 s.heap [] 0 0 13 [(0, .ref b), (1, .int (zI 2))] [.int (zI (sgM (mo 3) (mo 0 8) sp.1))]
    have hf_2 := sgM_b ((mo 3)) (mo 0 8) sp.1 hcr (by first | omega | (dsimp only; omega))
    refine v_bipush X dX10_number_13 15 rfl rfl ?_
    refine v_bipush X dX10_number_15 17 rfl rfl ?_
    refine v_rdS X hM.C (ws0 E s.heap) (c_X10_in l E (sgM (mo 3) (mo 0 8) sp.1) 48 57 (by omega) (by omega) (by omega)) kvX10_in ksX10_in kl_X10_43 (As := [.int (zI (sgM (mo 3) (mo 0 8) sp.1)), .int (zI 48), .int (zI 57)]) rfl rfl rfl dX10_number_17 20 rfl ?_
    show V p l e (rmL 1 0 0) s m args below meth cd Q 4 s.heap [] 0 0 20 [(0, .ref b), (1, .int (zI 2))] [.int (zI (bz (48 ≤ (sgM (mo 3) (mo 0 8) sp.1) ∧ (sgM (mo 3) (mo 0 8) sp.1) ≤ 57)))]
    refine v_bif_ne X dX10_number_20 23 33 rfl (by decide) (fun c_3 => ?_) (fun c_3 => ?_)
    · skip
      have hlt := sgM_lt (g := mo 3) (n := mo 0 8) (h := sp.1) (by omega)
      refine v_iconst X dX10_number_33 34 rfl ?_
      refine v_istore_n X dX10_number_34 35 rfl rfl (by decide) (L' := [(2, .int (zI 0)), (0, .ref b), (1, .int (zI 2))]) rfl ?_
      refine v_iconst X dX10_number_35 36 rfl ?_
      refine v_istore_n X dX10_number_36 37 rfl rfl (by decide) (L' := [(3, .int (zI 0)), (2, .int (zI 0)), (0, .ref b), (1, .int (zI 2))]) rfl ?_
      refine v_iload_n X dX10_number_37 38 rfl 0 rfl ?_
      refine v_iload_n X dX10_number_38 39 rfl 3 rfl ?_
      refine v_icmp_ge X (by omega) (by omega) dX10_number_39 42 85 rfl (by decide) (fun c_4 => ?_) (fun c_4 => ?_)
      · skip
        exfalso; omega
      · skip
        refine v_aload_n X dX10_number_42 43 rfl 2 rfl ?_
        refine v_rdV X hM.C h_mo.1 (c_X10_sign l E b (updC mo 0 (updZ (updZ (mo 0) 9 sp.1) 10 sp.2)) sp hcr hn (by first | rfl | assumption) bs) kvX10_sign kiX10_sign kl_X10_175 rfl rfl (As := []) rfl rfl rfl dX10_number_43 46 rfl ?_
        show V p l e (rmL 1 0 0) s m args below meth cd Q 4 s.heap [] 0 0 46 [(3, .int (zI 0)), (2, .int (zI 0)), (0, .ref b), (1, .int (zI 2))] [.int (zI (sgM (mo 3) (mo 0 8) sp.1))]
        have hf_5 := sgM_b ((mo 3)) (mo 0 8) sp.1 hcr (by first | omega | (dsimp only; omega))
        refine v_bipush X dX10_number_46 48 rfl rfl ?_
        refine v_bipush X dX10_number_48 50 rfl rfl ?_
        refine v_rdS X hM.C (ws0 E s.heap) (c_X10_in l E (sgM (mo 3) (mo 0 8) sp.1) 48 57 (by omega) (by omega) (by omega)) kvX10_in ksX10_in kl_X10_43 (As := [.int (zI (sgM (mo 3) (mo 0 8) sp.1)), .int (zI 48), .int (zI 57)]) rfl rfl rfl dX10_number_50 53 rfl ?_
        show V p l e (rmL 1 0 0) s m args below meth cd Q 4 s.heap [] 0 0 53 [(3, .int (zI 0)), (2, .int (zI 0)), (0, .ref b), (1, .int (zI 2))] [.int (zI (bz (48 ≤ (sgM (mo 3) (mo 0 8) sp.1) ∧ (sgM (mo 3) (mo 0 8) sp.1) ≤ 57)))]
        refine v_bif_eq X dX10_number_53 56 85 rfl (by decide) (fun c_6 => ?_) (fun c_6 => ?_)
        · skip
          refine v_iload_n X dX10_number_85 86 rfl 1 rfl ?_
          have hnm : nm (mo 3) (mo 0 8) sp 2 = (0, (sp.1, sp.2)) := by unfold nm; first | (rw [if_pos (by omega)]; done) | (rw [if_neg (by omega), if_neg (by dsimp only [dgt]; omega)]; done) | (rw [if_neg (by omega), if_pos (by dsimp only [dgt]; omega), if_pos (by dsimp only [dgt]; omega)]; done) | (rw [if_neg (by omega), if_pos (by dsimp only [dgt]; omega), if_neg (by dsimp only [dgt]; omega)]; done)
          subst hQ; exact m_iret X hr hlk hM dX10_number_86 rfl ⟨(sv (by rw [hnm]; first | done | omega | (dsimp only; omega))), (PR.to h_mo (by rw [hnm]))⟩
        · skip
          refine v_bipush X dX10_number_56 58 rfl rfl ?_
          refine v_iload_n X dX10_number_58 59 rfl 1 rfl ?_
          refine v_imul X dX10_number_59 60 rfl ?_
          refine v_aload_n X dX10_number_60 61 rfl 2 rfl ?_
          refine v_rdV X hM.C h_mo.1 (c_X10_sign l E b (updC mo 0 (updZ (updZ (mo 0) 9 sp.1) 10 sp.2)) sp hcr hn (by first | rfl | assumption) bs) kvX10_sign kiX10_sign kl_X10_175 rfl rfl (As := []) rfl rfl rfl dX10_number_61 64 rfl ?_
          show V p l e (rmL 1 0 0) s m args below meth cd Q 4 s.heap [] 0 0 64 [(3, .int (zI 0)), (2, .int (zI 0)), (0, .ref b), (1, .int (zI 2))] [.int (zI (sgM (mo 3) (mo 0 8) sp.1)), .int (zI (10 * 0))]
          have hf_7 := sgM_b ((mo 3)) (mo 0 8) sp.1 hcr (by first | omega | (dsimp only; omega))
          refine v_iadd X dX10_number_64 65 rfl ?_
          refine v_bipush X dX10_number_65 67 rfl rfl ?_
          refine v_isub X dX10_number_67 68 rfl ?_
          refine v_istore_n X dX10_number_68 69 rfl rfl (by decide) (L' := [(2, .int (zI (10 * 0 + sgM (mo 3) (mo 0 8) sp.1 - 48))), (3, .int (zI 0)), (0, .ref b), (1, .int (zI 2))]) rfl ?_
          refine v_aload_n X dX10_number_69 70 rfl 2 rfl ?_
          refine v_dup X dX10_number_70 71 rfl rfl ?_
          refine v_getf X hM.C h_mo.1 inX10 0 rfl rfl 9 (by decide) kf_X10_169 (fun _ h => h) rfl dX10_number_71 74 rfl ?_
          show V p l e (rmL 1 0 0) s m args below meth cd Q 4 s.heap [] 0 0 74 [(2, .int (zI (10 * 0 + sgM (mo 3) (mo 0 8) sp.1 - 48))), (3, .int (zI 0)), (0, .ref b), (1, .int (zI 2))] [.int (zI sp.1), .ref b]
          refine v_iconst X dX10_number_74 75 rfl ?_
          refine v_iadd X dX10_number_75 76 rfl ?_
          refine v_putf X hM h_mo ftX10 0 rfl rfl 9 (by decide) kf_X10_169 (fun _ h => h) rfl rfl rfl (Nat.le_of_ble_eq_true rfl) (Or.inl (fsH (by omega) (by omega))) dX10_number_76 79 rfl (ws' := modelW E b (updC mo 0 (updZ (updZ (mo 0) 9 (sp.1 + 1)) 10 sp.2))) rfl (fun H8 lo8 hzz hM hF h_mo => ?_)
          clear hzz
          refine v_iinc X dX10_number_79 82 rfl 1 rfl (by decide) (L' := [(3, .int (zI (0 + 1))), (2, .int (zI (10 * 0 + sgM (mo 3) (mo 0 8) sp.1 - 48))), (0, .ref b), (1, .int (zI 2))]) rfl ?_
          refine v_goto X dX10_number_82 37 (by decide) ?_
          refine V_L (L' := [(3, .int (zI 1)), (2, .int (zI (10 * 0 + sgM (mo 3) (mo 0 8) sp.1 - 48))), (0, .ref b), (1, .int (zI 2))]) (LC (vz (by omega)) (LC rfl (LC rfl (LC rfl rfl)))) ?_
          refine v_iload_n X dX10_number_37 38 rfl 0 rfl ?_
          refine v_iload_n X dX10_number_38 39 rfl 3 rfl ?_
          refine v_icmp_ge X (by omega) (by omega) dX10_number_39 42 85 rfl (by decide) (fun c_9 => ?_) (fun c_9 => ?_)
          · skip
            exfalso; omega
          · skip
            refine v_aload_n X dX10_number_42 43 rfl 2 rfl ?_
            refine v_rdV X hM.C h_mo.1 (c_X10_sign l E b (updC mo 0 (updZ (updZ (mo 0) 9 (sp.1 + 1)) 10 sp.2)) (sp.1 + 1, sp.2) hcr hn (by first | rfl | assumption) (show inS (mo 0 8) (sp.1 + 1, sp.2) from (by first | assumption | (dsimp only [inS]; omega)))) kvX10_sign kiX10_sign kl_X10_175 rfl rfl (As := []) rfl rfl rfl dX10_number_43 46 rfl ?_
            show V p l e (rmL 1 0 0) s m args below meth cd Q 4 H8 lo8 0 0 46 [(3, .int (zI 1)), (2, .int (zI (10 * 0 + sgM (mo 3) (mo 0 8) sp.1 - 48))), (0, .ref b), (1, .int (zI 2))] [.int (zI (sgM (mo 3) (mo 0 8) (sp.1 + 1, sp.2).1))]
            have hf_10 := sgM_b ((mo 3)) (mo 0 8) (sp.1 + 1, sp.2).1 hcr (by first | omega | (dsimp only; omega))
            refine V_S (st' := [.int (zI (sgM (mo 3) (mo 0 8) (sp.1 + 1)))]) (by rfl) ?_
            have hsx_11 := sgM_b (mo 3) (mo 0 8) (sp.1 + 1) hcr (by omega)
            refine v_bipush X dX10_number_46 48 rfl rfl ?_
            refine v_bipush X dX10_number_48 50 rfl rfl ?_
            refine v_rdS X hM.C (ws0 E H8) (c_X10_in l E (sgM (mo 3) (mo 0 8) (sp.1 + 1)) 48 57 (by omega) (by omega) (by omega)) kvX10_in ksX10_in kl_X10_43 (As := [.int (zI (sgM (mo 3) (mo 0 8) (sp.1 + 1))), .int (zI 48), .int (zI 57)]) rfl rfl rfl dX10_number_50 53 rfl ?_
            show V p l e (rmL 1 0 0) s m args below meth cd Q 4 H8 lo8 0 0 53 [(3, .int (zI 1)), (2, .int (zI (10 * 0 + sgM (mo 3) (mo 0 8) sp.1 - 48))), (0, .ref b), (1, .int (zI 2))] [.int (zI (bz (48 ≤ (sgM (mo 3) (mo 0 8) (sp.1 + 1)) ∧ (sgM (mo 3) (mo 0 8) (sp.1 + 1)) ≤ 57)))]
            refine v_bif_eq X dX10_number_53 56 85 rfl (by decide) (fun c_12 => ?_) (fun c_12 => ?_)
            · skip
              refine v_iload_n X dX10_number_85 86 rfl 1 rfl ?_
              have hnm : nm (mo 3) (mo 0 8) sp 2 = (sgM (mo 3) (mo 0 8) sp.1 - 48, (sp.1 + 1, sp.2)) := by unfold nm; first | (rw [if_pos (by omega)]; done) | (rw [if_neg (by omega), if_neg (by dsimp only [dgt]; omega)]; done) | (rw [if_neg (by omega), if_pos (by dsimp only [dgt]; omega), if_pos (by dsimp only [dgt]; omega)]; done) | (rw [if_neg (by omega), if_pos (by dsimp only [dgt]; omega), if_neg (by dsimp only [dgt]; omega)]; done)
              subst hQ; exact m_iret X hr hlk hM dX10_number_86 rfl ⟨(sv (by rw [hnm]; first | done | omega | (dsimp only; omega))), (PR.to h_mo (by rw [hnm]))⟩
            · skip
              refine v_bipush X dX10_number_56 58 rfl rfl ?_
              refine v_iload_n X dX10_number_58 59 rfl 1 rfl ?_
              refine v_imul X dX10_number_59 60 rfl ?_
              refine v_aload_n X dX10_number_60 61 rfl 2 rfl ?_
              refine v_rdV X hM.C h_mo.1 (c_X10_sign l E b (updC mo 0 (updZ (updZ (mo 0) 9 (sp.1 + 1)) 10 sp.2)) (sp.1 + 1, sp.2) hcr hn (by first | rfl | assumption) (show inS (mo 0 8) (sp.1 + 1, sp.2) from (by first | assumption | (dsimp only [inS]; omega)))) kvX10_sign kiX10_sign kl_X10_175 rfl rfl (As := []) rfl rfl rfl dX10_number_61 64 rfl ?_
              show V p l e (rmL 1 0 0) s m args below meth cd Q 4 H8 lo8 0 0 64 [(3, .int (zI 1)), (2, .int (zI (10 * 0 + sgM (mo 3) (mo 0 8) sp.1 - 48))), (0, .ref b), (1, .int (zI 2))] [.int (zI (sgM (mo 3) (mo 0 8) (sp.1 + 1, sp.2).1)), .int (zI (10 * (10 * 0 + sgM (mo 3) (mo 0 8) sp.1 - 48)))]
              have hf_13 := sgM_b ((mo 3)) (mo 0 8) (sp.1 + 1, sp.2).1 hcr (by first | omega | (dsimp only; omega))
              refine V_S (st' := [.int (zI (sgM (mo 3) (mo 0 8) (sp.1 + 1))), .int (zI (10 * (10 * 0 + sgM (mo 3) (mo 0 8) sp.1 - 48)))]) (by rfl) ?_
              have hsx_14 := sgM_b (mo 3) (mo 0 8) (sp.1 + 1) hcr (by omega)
              refine v_iadd X dX10_number_64 65 rfl ?_
              refine v_bipush X dX10_number_65 67 rfl rfl ?_
              refine v_isub X dX10_number_67 68 rfl ?_
              refine v_istore_n X dX10_number_68 69 rfl rfl (by decide) (L' := [(2, .int (zI (10 * (10 * 0 + sgM (mo 3) (mo 0 8) sp.1 - 48) + (sgM (mo 3) (mo 0 8) (sp.1 + 1)) - 48))), (3, .int (zI 1)), (0, .ref b), (1, .int (zI 2))]) rfl ?_
              refine v_aload_n X dX10_number_69 70 rfl 2 rfl ?_
              refine v_dup X dX10_number_70 71 rfl rfl ?_
              refine v_getf X hM.C h_mo.1 inX10 0 rfl rfl 9 (by decide) kf_X10_169 (fun _ h => h) rfl dX10_number_71 74 rfl ?_
              show V p l e (rmL 1 0 0) s m args below meth cd Q 4 H8 lo8 0 0 74 [(2, .int (zI (10 * (10 * 0 + sgM (mo 3) (mo 0 8) sp.1 - 48) + (sgM (mo 3) (mo 0 8) (sp.1 + 1)) - 48))), (3, .int (zI 1)), (0, .ref b), (1, .int (zI 2))] [.int (zI (sp.1 + 1)), .ref b]
              refine v_iconst X dX10_number_74 75 rfl ?_
              refine v_iadd X dX10_number_75 76 rfl ?_
              refine v_putf X hM h_mo ftX10 0 rfl rfl 9 (by decide) kf_X10_169 (fun _ h => h) rfl rfl rfl (Nat.le_of_ble_eq_true rfl) (Or.inl (fsH (by omega) (by omega))) dX10_number_76 79 rfl (ws' := modelW E b (updC mo 0 (updZ (updZ (mo 0) 9 (sp.1 + 1 + 1)) 10 sp.2))) rfl (fun H15 lo15 hzz hM hF h_mo => ?_)
              clear hzz
              refine v_iinc X dX10_number_79 82 rfl 1 rfl (by decide) (L' := [(3, .int (zI (1 + 1))), (2, .int (zI (10 * (10 * 0 + sgM (mo 3) (mo 0 8) sp.1 - 48) + (sgM (mo 3) (mo 0 8) (sp.1 + 1)) - 48))), (0, .ref b), (1, .int (zI 2))]) rfl ?_
              refine v_goto X dX10_number_82 37 (by decide) ?_
              refine V_L (L' := [(3, .int (zI 2)), (2, .int (zI (10 * (10 * 0 + sgM (mo 3) (mo 0 8) sp.1 - 48) + (sgM (mo 3) (mo 0 8) (sp.1 + 1)) - 48))), (0, .ref b), (1, .int (zI 2))]) (LC (vz (by omega)) (LC rfl (LC rfl (LC rfl rfl)))) ?_
              refine v_iload_n X dX10_number_37 38 rfl 0 rfl ?_
              refine v_iload_n X dX10_number_38 39 rfl 3 rfl ?_
              refine v_icmp_ge X (by omega) (by omega) dX10_number_39 42 85 rfl (by decide) (fun c_16 => ?_) (fun c_16 => ?_)
              · skip
                refine v_iload_n X dX10_number_85 86 rfl 1 rfl ?_
                have hnm : nm (mo 3) (mo 0 8) sp 2 = (10 * (sgM (mo 3) (mo 0 8) sp.1 - 48) + (sgM (mo 3) (mo 0 8) (sp.1 + 1) - 48), (sp.1 + 2, sp.2)) := by unfold nm; first | (rw [if_pos (by omega)]; done) | (rw [if_neg (by omega), if_neg (by dsimp only [dgt]; omega)]; done) | (rw [if_neg (by omega), if_pos (by dsimp only [dgt]; omega), if_pos (by dsimp only [dgt]; omega)]; done) | (rw [if_neg (by omega), if_pos (by dsimp only [dgt]; omega), if_neg (by dsimp only [dgt]; omega)]; done)
                subst hQ; exact m_iret X hr hlk hM dX10_number_86 rfl ⟨(sv (by rw [hnm]; first | done | omega | (dsimp only; omega))), (PR.to h_mo (by rw [hnm]; rw [show sp.1 + 1 + 1 = sp.1 + 2 by omega]))⟩
              · skip
                exfalso; omega
    · skip
      refine v_aload_n X dX10_number_23 24 rfl 0 rfl ?_
      refine v_aload_n X dX10_number_24 25 rfl 0 rfl ?_
      refine v_getf X hM.C h_mo.1 inX10 0 rfl rfl 9 (by decide) kf_X10_169 (fun _ h => h) rfl dX10_number_25 28 rfl ?_
      show V p l e (rmL 1 0 0) s m args below meth cd Q 4 s.heap [] 0 0 28 [(0, .ref b), (1, .int (zI 2))] [.int (zI sp.1), .ref b]
      refine v_putf X hM h_mo ftX10 0 rfl rfl 10 (by decide) kf_X10_172 (fun _ h => h) rfl rfl rfl (Nat.le_of_ble_eq_true rfl) (Or.inl (fsH (by omega) (by omega))) dX10_number_28 31 rfl (ws' := modelW E b (updC mo 0 (updZ (updZ (mo 0) 9 sp.1) 10 sp.1))) rfl (fun H17 lo17 hzz hM hF h_mo => ?_)
      clear hzz
      refine v_iconst X dX10_number_31 32 rfl ?_
      have hnm : nm (mo 3) (mo 0 8) sp 2 = (0, (sp.1, sp.1)) := by unfold nm; first | (rw [if_pos (by omega)]; done) | (rw [if_neg (by omega), if_neg (by dsimp only [dgt]; omega)]; done) | (rw [if_neg (by omega), if_pos (by dsimp only [dgt]; omega), if_pos (by dsimp only [dgt]; omega)]; done) | (rw [if_neg (by omega), if_pos (by dsimp only [dgt]; omega), if_neg (by dsimp only [dgt]; omega)]; done)
      subst hQ; exact m_iret X hr hlk hM dX10_number_32 rfl ⟨(sv (by rw [hnm]; first | done | omega | (dsimp only; omega))), (PR.to h_mo (by rw [hnm]))⟩
  · skip
    refine v_iconst X dX10_number_7 8 rfl ?_
    have hnm : nm (mo 3) (mo 0 8) sp 2 = (0, (sp.1, sp.2)) := by unfold nm; first | (rw [if_pos (by omega)]; done) | (rw [if_neg (by omega), if_neg (by dsimp only [dgt]; omega)]; done) | (rw [if_neg (by omega), if_pos (by dsimp only [dgt]; omega), if_pos (by dsimp only [dgt]; omega)]; done) | (rw [if_neg (by omega), if_pos (by dsimp only [dgt]; omega), if_neg (by dsimp only [dgt]; omega)]; done)
    subst hQ; exact m_iret X hr hlk hM dX10_number_8 rfl ⟨(sv (by rw [hnm]; first | done | omega | (dsimp only; omega))), (PR.to h_mo (by rw [hnm]))⟩
set_option maxHeartbeats 4000000 in
set_option maxRecDepth 20000 in
theorem c_X10_behind_1 (l : Launch) (E : Nat → Nat → Nat) (b : Nat) (mo : Nat → Int → Int) (sp : Int × Int) (hcr : ∀ j : Int, 0 ≤ j → j < mo 0 8 → 0 ≤ mo 3 j ∧ mo 3 j < 128) (hn : 0 ≤ mo 0 8 ∧ mo 0 8 ≤ 60) (e9 : mo 0 9 = sp.1) (e10 : mo 0 10 = sp.2) (bs : inS (mo 0 8) sp) : Mu l yX10_behind cX10_behind 2 (some .int) 2 0 0 E [(b, 5)] [.ref b, .int (zI 1)] (fun H => PR E b (modelW E b mo) H) (fun rv H => rv = some (.int (zI ((nm (mo 3) (mo 0 8) (nd (mo 3) (mo 0 8) sp 32) 1).1))) ∧ PR E b (modelW E b (updC mo 0 (updZ (updZ (mo 0) 9 (((nm (mo 3) (mo 0 8) (nd (mo 3) (mo 0 8) sp 32) 1).2).1)) 10 (((nm (mo 3) (mo 0 8) (nd (mo 3) (mo 0 8) sp 32) 1).2).2)))) H) := by
  refine Mu.start (own := RX10) rfl (by decide +kernel) (Nat.le_of_ble_eq_true rfl) ?_
  intro p e s m below meth cd args Q hQ X hr hlk hnm hM hPr
  have h_mo := hPr
  have hbs := bs
  dsimp only [inS] at hbs
  replace h_mo : PR E b (modelW E b (updC mo 0 (updZ (updZ (mo 0) 9 sp.1) 10 sp.2))) s.heap := PR.to h_mo (by rw [upd_2 e9 e10])
  refine v_aload_n X dX10_behind_0 1 rfl 0 rfl ?_
  refine v_bipush X dX10_behind_1 3 rfl rfl ?_
  refine v_muV X hM (h_mo.1) (c_X10_needs l E b (updC mo 0 (updZ (updZ (mo 0) 9 sp.1) 10 sp.2)) sp 32 hcr hn (by first | rfl | assumption) (by first | rfl | assumption) bs (by omega)) kvX10_needs kiX10_needs kl_X10_179 (q0 := 0) rfl rfl (As := [.int (zI 32)]) rfl rfl rfl dX10_behind_3 6 rfl (k' := 0) (n' := 0) rfl rfl (fsI (fun q q1 q2 => (Or.inl (fsH (by omega) (by omega))))) h_mo (fun rv H1 lo1 hM hF hpo => ?_)
  obtain ⟨rfl, hw_0⟩ := hpo
  have h_mo : PR E b (modelW E b (updC mo 0 (updZ (updZ (mo 0) 9 ((nd ((mo 3)) (mo 0 8) sp 32).1)) 10 ((nd ((mo 3)) (mo 0 8) sp 32).2)))) H1 := hw_0
  show V p l e (rmL 2 0 0) s m args below meth cd Q 2 H1 lo1 0 0 6 [(0, .ref b), (1, .int (zI 1))] []
  have hf_2 := nd_b ((mo 3)) (mo 0 8) (sp) (32) (by first | assumption | (dsimp only [inS]; omega)) (by omega)
  refine v_aload_n X dX10_behind_6 7 rfl 0 rfl ?_
  refine v_iload_n X dX10_behind_7 8 rfl 1 rfl ?_
  refine v_muV X hM (h_mo.1) (c_X10_number_1 l E b (updC mo 0 (updZ (updZ (mo 0) 9 ((nd ((mo 3)) (mo 0 8) sp 32).1)) 10 ((nd ((mo 3)) (mo 0 8) sp 32).2))) (nd (mo 3) (mo 0 8) sp 32) hcr hn (by first | rfl | assumption) (by first | rfl | assumption) (show inS (mo 0 8) (nd (mo 3) (mo 0 8) sp 32) from (by first | assumption | (dsimp only [inS]; omega)))) kvX10_number kiX10_number kl_X10_182 (q0 := 0) rfl rfl (As := [.int (zI 1)]) rfl rfl rfl dX10_behind_8 11 rfl (k' := 0) (n' := 0) rfl rfl (fsI (fun q q1 q2 => (Or.inl (fsH (by omega) (by omega))))) h_mo (fun rv H3 lo3 hM hF hpo => ?_)
  obtain ⟨rfl, hw_0⟩ := hpo
  have h_mo : PR E b (modelW E b (updC mo 0 (updZ (updZ (mo 0) 9 (((nm ((mo 3)) (mo 0 8) (nd (mo 3) (mo 0 8) sp 32) 1).2).1)) 10 (((nm ((mo 3)) (mo 0 8) (nd (mo 3) (mo 0 8) sp 32) 1).2).2)))) H3 := hw_0
  show V p l e (rmL 2 0 0) s m args below meth cd Q 2 H3 lo3 0 0 11 [(0, .ref b), (1, .int (zI 1))] [.int (zI ((nm (mo 3) (mo 0 8) (nd (mo 3) (mo 0 8) sp 32) 1).1))]
  have hf_4 := nm_b ((mo 3)) (mo 0 8) (nd (mo 3) (mo 0 8) sp 32) 1 (by first | assumption | (dsimp only [inS]; omega))
  subst hQ; exact m_iret X hr hlk hM dX10_behind_11 rfl ⟨rfl, h_mo⟩
set_option maxHeartbeats 4000000 in
set_option maxRecDepth 20000 in
theorem c_X10_behind_2 (l : Launch) (E : Nat → Nat → Nat) (b : Nat) (mo : Nat → Int → Int) (sp : Int × Int) (hcr : ∀ j : Int, 0 ≤ j → j < mo 0 8 → 0 ≤ mo 3 j ∧ mo 3 j < 128) (hn : 0 ≤ mo 0 8 ∧ mo 0 8 ≤ 60) (e9 : mo 0 9 = sp.1) (e10 : mo 0 10 = sp.2) (bs : inS (mo 0 8) sp) : Mu l yX10_behind cX10_behind 2 (some .int) 2 0 0 E [(b, 5)] [.ref b, .int (zI 2)] (fun H => PR E b (modelW E b mo) H) (fun rv H => rv = some (.int (zI ((nm (mo 3) (mo 0 8) (nd (mo 3) (mo 0 8) sp 32) 2).1))) ∧ PR E b (modelW E b (updC mo 0 (updZ (updZ (mo 0) 9 (((nm (mo 3) (mo 0 8) (nd (mo 3) (mo 0 8) sp 32) 2).2).1)) 10 (((nm (mo 3) (mo 0 8) (nd (mo 3) (mo 0 8) sp 32) 2).2).2)))) H) := by
  refine Mu.start (own := RX10) rfl (by decide +kernel) (Nat.le_of_ble_eq_true rfl) ?_
  intro p e s m below meth cd args Q hQ X hr hlk hnm hM hPr
  have h_mo := hPr
  have hbs := bs
  dsimp only [inS] at hbs
  replace h_mo : PR E b (modelW E b (updC mo 0 (updZ (updZ (mo 0) 9 sp.1) 10 sp.2))) s.heap := PR.to h_mo (by rw [upd_2 e9 e10])
  refine v_aload_n X dX10_behind_0 1 rfl 0 rfl ?_
  refine v_bipush X dX10_behind_1 3 rfl rfl ?_
  refine v_muV X hM (h_mo.1) (c_X10_needs l E b (updC mo 0 (updZ (updZ (mo 0) 9 sp.1) 10 sp.2)) sp 32 hcr hn (by first | rfl | assumption) (by first | rfl | assumption) bs (by omega)) kvX10_needs kiX10_needs kl_X10_179 (q0 := 0) rfl rfl (As := [.int (zI 32)]) rfl rfl rfl dX10_behind_3 6 rfl (k' := 0) (n' := 0) rfl rfl (fsI (fun q q1 q2 => (Or.inl (fsH (by omega) (by omega))))) h_mo (fun rv H1 lo1 hM hF hpo => ?_)
  obtain ⟨rfl, hw_0⟩ := hpo
  have h_mo : PR E b (modelW E b (updC mo 0 (updZ (updZ (mo 0) 9 ((nd ((mo 3)) (mo 0 8) sp 32).1)) 10 ((nd ((mo 3)) (mo 0 8) sp 32).2)))) H1 := hw_0
  show V p l e (rmL 2 0 0) s m args below meth cd Q 2 H1 lo1 0 0 6 [(0, .ref b), (1, .int (zI 2))] []
  have hf_2 := nd_b ((mo 3)) (mo 0 8) (sp) (32) (by first | assumption | (dsimp only [inS]; omega)) (by omega)
  refine v_aload_n X dX10_behind_6 7 rfl 0 rfl ?_
  refine v_iload_n X dX10_behind_7 8 rfl 1 rfl ?_
  refine v_muV X hM (h_mo.1) (c_X10_number_2 l E b (updC mo 0 (updZ (updZ (mo 0) 9 ((nd ((mo 3)) (mo 0 8) sp 32).1)) 10 ((nd ((mo 3)) (mo 0 8) sp 32).2))) (nd (mo 3) (mo 0 8) sp 32) hcr hn (by first | rfl | assumption) (by first | rfl | assumption) (show inS (mo 0 8) (nd (mo 3) (mo 0 8) sp 32) from (by first | assumption | (dsimp only [inS]; omega)))) kvX10_number kiX10_number kl_X10_182 (q0 := 0) rfl rfl (As := [.int (zI 2)]) rfl rfl rfl dX10_behind_8 11 rfl (k' := 0) (n' := 0) rfl rfl (fsI (fun q q1 q2 => (Or.inl (fsH (by omega) (by omega))))) h_mo (fun rv H3 lo3 hM hF hpo => ?_)
  obtain ⟨rfl, hw_0⟩ := hpo
  have h_mo : PR E b (modelW E b (updC mo 0 (updZ (updZ (mo 0) 9 (((nm ((mo 3)) (mo 0 8) (nd (mo 3) (mo 0 8) sp 32) 2).2).1)) 10 (((nm ((mo 3)) (mo 0 8) (nd (mo 3) (mo 0 8) sp 32) 2).2).2)))) H3 := hw_0
  show V p l e (rmL 2 0 0) s m args below meth cd Q 2 H3 lo3 0 0 11 [(0, .ref b), (1, .int (zI 2))] [.int (zI ((nm (mo 3) (mo 0 8) (nd (mo 3) (mo 0 8) sp 32) 2).1))]
  have hf_4 := nm_b ((mo 3)) (mo 0 8) (nd (mo 3) (mo 0 8) sp 32) 2 (by first | assumption | (dsimp only [inS]; omega))
  subst hQ; exact m_iret X hr hlk hM dX10_behind_11 rfl ⟨rfl, h_mo⟩
set_option maxHeartbeats 4000000 in
set_option maxRecDepth 20000 in
theorem c_X10_either (l : Launch) (E : Nat → Nat → Nat) (b : Nat) (mo : Nat → Int → Int) (sp : Int × Int) (x : Int) (y : Int) (hcr : ∀ j : Int, 0 ≤ j → j < mo 0 8 → 0 ≤ mo 3 j ∧ mo 3 j < 128) (hn : 0 ≤ mo 0 8 ∧ mo 0 8 ≤ 60) (e9 : mo 0 9 = sp.1) (e10 : mo 0 10 = sp.2) (bs : inS (mo 0 8) sp) (gx : 0 ≤ x ∧ x < 128) (gy : 0 ≤ y ∧ y < 128) : Mu l yX10_either cX10_either 4 (some .int) 1 0 0 E [(b, 5)] [.ref b, .int (zI x), .int (zI y)] (fun H => PR E b (modelW E b mo) H) (fun rv H => rv = some (.int (zI ((ei (mo 3) (mo 0 8) sp x y).1))) ∧ PR E b (modelW E b (updC mo 0 (updZ (updZ (mo 0) 9 (((ei (mo 3) (mo 0 8) sp x y).2).1)) 10 (((ei (mo 3) (mo 0 8) sp x y).2).2)))) H) := by
  refine Mu.start (own := RX10) rfl (by decide +kernel) (Nat.le_of_ble_eq_true rfl) ?_
  intro p e s m below meth cd args Q hQ X hr hlk hnm hM hPr
  have h_mo := hPr
  have hbs := bs
  dsimp only [inS] at hbs
  replace h_mo : PR E b (modelW E b (updC mo 0 (updZ (updZ (mo 0) 9 sp.1) 10 sp.2))) s.heap := PR.to h_mo (by rw [upd_2 e9 e10])
  refine v_aload_n X dX10_either_0 1 rfl 0 rfl ?_
  refine v_getf X hM.C h_mo.1 inX10 0 rfl rfl 10 (by decide) kf_X10_172 (fun _ h => h) rfl dX10_either_1 4 rfl ?_
  show V p l e (rmL 1 0 0) s m args below meth cd Q 4 s.heap [] 0 0 4 [(0, .ref b), (1, .int (zI x)), (2, .int (zI y))] [.int (zI sp.2)]
  refine v_if_lt X (by omega) dX10_either_4 7 9 rfl (by decide) (fun c_1 => ?_) (fun c_1 => ?_)
  · skip
    refine v_aload_n X dX10_either_9 10 rfl 0 rfl ?_
    refine v_rdV X hM.C h_mo.1 (c_X10_sign l E b (updC mo 0 (updZ (updZ (mo 0) 9 sp.1) 10 sp.2)) sp hcr hn (by first | rfl | assumption) bs) kvX10_sign kiX10_sign kl_X10_175 rfl rfl (As := []) rfl rfl rfl dX10_either_10 13 rfl ?_
    show V p l e (rmL 1 0 0) s m args below meth cd Q 4 s.heap [] 0 0 13 [(0, .ref b), (1, .int (zI x)), (2, .int (zI y))] [.int (zI (sgM (mo 3) (mo 0 8) sp.1))]
    have hf_2 := sgM_b ((mo 3)) (mo 0 8) sp.1 hcr (by first | omega | (dsimp only; omega))
    refine v_istore_n X dX10_either_13 14 rfl rfl (by decide) (L' := [(3, .int (zI (sgM (mo 3) (mo 0 8) sp.1))), (0, .ref b), (1, .int (zI x)), (2, .int (zI y))]) rfl ?_
    refine v_iload_n X dX10_either_14 15 rfl 0 rfl ?_
    refine v_iload_n X dX10_either_15 16 rfl 2 rfl ?_
    refine v_icmp_eq X (by omega) (by omega) dX10_either_16 19 34 rfl (by decide) (fun c_3 => ?_) (fun c_3 => ?_)
    · skip
      refine v_aload_n X dX10_either_34 35 rfl 1 rfl ?_
      refine v_dup X dX10_either_35 36 rfl rfl ?_
      refine v_getf X hM.C h_mo.1 inX10 0 rfl rfl 9 (by decide) kf_X10_169 (fun _ h => h) rfl dX10_either_36 39 rfl ?_
      show V p l e (rmL 1 0 0) s m args below meth cd Q 4 s.heap [] 0 0 39 [(3, .int (zI (sgM (mo 3) (mo 0 8) sp.1))), (0, .ref b), (1, .int (zI x)), (2, .int (zI y))] [.int (zI sp.1), .ref b]
      refine v_iconst X dX10_either_39 40 rfl ?_
      refine v_iadd X dX10_either_40 41 rfl ?_
      refine v_putf X hM h_mo ftX10 0 rfl rfl 9 (by decide) kf_X10_169 (fun _ h => h) rfl rfl rfl (Nat.le_of_ble_eq_true rfl) (Or.inl (fsH (by omega) (by omega))) dX10_either_41 44 rfl (ws' := modelW E b (updC mo 0 (updZ (updZ (mo 0) 9 (sp.1 + 1)) 10 sp.2))) rfl (fun H4 lo4 hzz hM hF h_mo => ?_)
      clear hzz
      refine v_iload_n X dX10_either_44 45 rfl 0 rfl ?_
      refine v_iload_n X dX10_either_45 46 rfl 2 rfl ?_
      refine v_icmp_ne X (by omega) (by omega) dX10_either_46 49 53 rfl (by decide) (fun c_5 => ?_) (fun c_5 => ?_)
      · skip
        refine v_iconst X dX10_either_53 54 rfl ?_
        have hei : ei (mo 3) (mo 0 8) sp x y = (0, (sp.1 + 1, sp.2)) := by unfold ei; first | (rw [if_pos (by omega)]; done) | (rw [if_neg (by omega), if_neg (by omega)]; done) | (rw [if_neg (by omega), if_pos (by omega), if_pos (by omega)]; done) | (rw [if_neg (by omega), if_pos (by omega), if_neg (by omega)]; done)
        subst hQ; exact m_iret X hr hlk hM dX10_either_54 rfl ⟨(sv (by rw [hei])), (PR.to h_mo (by rw [hei]))⟩
      · skip
        refine v_iconst X dX10_either_49 50 rfl ?_
        refine v_goto X dX10_either_50 54 (by decide) ?_
        have hei : ei (mo 3) (mo 0 8) sp x y = (1, (sp.1 + 1, sp.2)) := by unfold ei; first | (rw [if_pos (by omega)]; done) | (rw [if_neg (by omega), if_neg (by omega)]; done) | (rw [if_neg (by omega), if_pos (by omega), if_pos (by omega)]; done) | (rw [if_neg (by omega), if_pos (by omega), if_neg (by omega)]; done)
        subst hQ; exact m_iret X hr hlk hM dX10_either_54 rfl ⟨(sv (by rw [hei])), (PR.to h_mo (by rw [hei]))⟩
    · skip
      refine v_iload_n X dX10_either_19 20 rfl 0 rfl ?_
      refine v_iload_n X dX10_either_20 21 rfl 3 rfl ?_
      refine v_icmp_eq X (by omega) (by omega) dX10_either_21 24 34 rfl (by decide) (fun c_6 => ?_) (fun c_6 => ?_)
      · skip
        refine v_aload_n X dX10_either_34 35 rfl 1 rfl ?_
        refine v_dup X dX10_either_35 36 rfl rfl ?_
        refine v_getf X hM.C h_mo.1 inX10 0 rfl rfl 9 (by decide) kf_X10_169 (fun _ h => h) rfl dX10_either_36 39 rfl ?_
        show V p l e (rmL 1 0 0) s m args below meth cd Q 4 s.heap [] 0 0 39 [(3, .int (zI (sgM (mo 3) (mo 0 8) sp.1))), (0, .ref b), (1, .int (zI x)), (2, .int (zI y))] [.int (zI sp.1), .ref b]
        refine v_iconst X dX10_either_39 40 rfl ?_
        refine v_iadd X dX10_either_40 41 rfl ?_
        refine v_putf X hM h_mo ftX10 0 rfl rfl 9 (by decide) kf_X10_169 (fun _ h => h) rfl rfl rfl (Nat.le_of_ble_eq_true rfl) (Or.inl (fsH (by omega) (by omega))) dX10_either_41 44 rfl (ws' := modelW E b (updC mo 0 (updZ (updZ (mo 0) 9 (sp.1 + 1)) 10 sp.2))) rfl (fun H7 lo7 hzz hM hF h_mo => ?_)
        clear hzz
        refine v_iload_n X dX10_either_44 45 rfl 0 rfl ?_
        refine v_iload_n X dX10_either_45 46 rfl 2 rfl ?_
        refine v_icmp_ne X (by omega) (by omega) dX10_either_46 49 53 rfl (by decide) (fun c_8 => ?_) (fun c_8 => ?_)
        · skip
          refine v_iconst X dX10_either_53 54 rfl ?_
          have hei : ei (mo 3) (mo 0 8) sp x y = (0, (sp.1 + 1, sp.2)) := by unfold ei; first | (rw [if_pos (by omega)]; done) | (rw [if_neg (by omega), if_neg (by omega)]; done) | (rw [if_neg (by omega), if_pos (by omega), if_pos (by omega)]; done) | (rw [if_neg (by omega), if_pos (by omega), if_neg (by omega)]; done)
          subst hQ; exact m_iret X hr hlk hM dX10_either_54 rfl ⟨(sv (by rw [hei])), (PR.to h_mo (by rw [hei]))⟩
        · skip
          refine v_iconst X dX10_either_49 50 rfl ?_
          refine v_goto X dX10_either_50 54 (by decide) ?_
          have hei : ei (mo 3) (mo 0 8) sp x y = (1, (sp.1 + 1, sp.2)) := by unfold ei; first | (rw [if_pos (by omega)]; done) | (rw [if_neg (by omega), if_neg (by omega)]; done) | (rw [if_neg (by omega), if_pos (by omega), if_pos (by omega)]; done) | (rw [if_neg (by omega), if_pos (by omega), if_neg (by omega)]; done)
          subst hQ; exact m_iret X hr hlk hM dX10_either_54 rfl ⟨(sv (by rw [hei])), (PR.to h_mo (by rw [hei]))⟩
      · skip
        refine v_aload_n X dX10_either_24 25 rfl 1 rfl ?_
        refine v_aload_n X dX10_either_25 26 rfl 1 rfl ?_
        refine v_getf X hM.C h_mo.1 inX10 0 rfl rfl 9 (by decide) kf_X10_169 (fun _ h => h) rfl dX10_either_26 29 rfl ?_
        show V p l e (rmL 1 0 0) s m args below meth cd Q 4 s.heap [] 0 0 29 [(3, .int (zI (sgM (mo 3) (mo 0 8) sp.1))), (0, .ref b), (1, .int (zI x)), (2, .int (zI y))] [.int (zI sp.1), .ref b]
        refine v_putf X hM h_mo ftX10 0 rfl rfl 10 (by decide) kf_X10_172 (fun _ h => h) rfl rfl rfl (Nat.le_of_ble_eq_true rfl) (Or.inl (fsH (by omega) (by omega))) dX10_either_29 32 rfl (ws' := modelW E b (updC mo 0 (updZ (updZ (mo 0) 9 sp.1) 10 sp.1))) rfl (fun H9 lo9 hzz hM hF h_mo => ?_)
        clear hzz
        refine v_iconst X dX10_either_32 33 rfl ?_
        have hei : ei (mo 3) (mo 0 8) sp x y = (0, (sp.1, sp.1)) := by unfold ei; first | (rw [if_pos (by omega)]; done) | (rw [if_neg (by omega), if_neg (by omega)]; done) | (rw [if_neg (by omega), if_pos (by omega), if_pos (by omega)]; done) | (rw [if_neg (by omega), if_pos (by omega), if_neg (by omega)]; done)
        subst hQ; exact m_iret X hr hlk hM dX10_either_33 rfl ⟨(sv (by rw [hei])), (PR.to h_mo (by rw [hei]))⟩
  · skip
    refine v_iconst X dX10_either_7 8 rfl ?_
    have hei : ei (mo 3) (mo 0 8) sp x y = (0, (sp.1, sp.2)) := by unfold ei; first | (rw [if_pos (by omega)]; done) | (rw [if_neg (by omega), if_neg (by omega)]; done) | (rw [if_neg (by omega), if_pos (by omega), if_pos (by omega)]; done) | (rw [if_neg (by omega), if_pos (by omega), if_neg (by omega)]; done)
    subst hQ; exact m_iret X hr hlk hM dX10_either_8 rfl ⟨(sv (by rw [hei])), (PR.to h_mo (by rw [hei]))⟩
set_option maxHeartbeats 4000000 in
set_option maxRecDepth 20000 in
theorem c_X10_word_119 (l : Launch) (E : Nat → Nat → Nat) (b : Nat) (mo : Nat → Int → Int) (sp : Int × Int) (hcr : ∀ j : Int, 0 ≤ j → j < mo 0 8 → 0 ≤ mo 3 j ∧ mo 3 j < 128) (hn : 0 ≤ mo 0 8 ∧ mo 0 8 ≤ 60) (e9 : mo 0 9 = sp.1) (e10 : mo 0 10 = sp.2) (bs : inS (mo 0 8) sp) : Mu l yX10_word cX10_word 2 (some .int) 3 0 0 E [(b, 5)] [.ref b, .int (zI 119)] (fun H => PR E b (modelW E b mo) H) (fun rv H => rv = some (.int (zI 119)) ∧ PR E b (modelW E b (updC mo 0 (updZ (updZ (mo 0) 9 ((nd (mo 3) (mo 0 8) (nd (mo 3) (mo 0 8) (nd (mo 3) (mo 0 8) (nd (mo 3) (mo 0 8) (nd (mo 3) (mo 0 8) (nd (mo 3) (mo 0 8) sp 105) 116) 110) 101) 115) 115).1)) 10 ((nd (mo 3) (mo 0 8) (nd (mo 3) (mo 0 8) (nd (mo 3) (mo 0 8) (nd (mo 3) (mo 0 8) (nd (mo 3) (mo 0 8) (nd (mo 3) (mo 0 8) sp 105) 116) 110) 101) 115) 115).2)))) H) := by
  refine Mu.start (own := RX10) rfl (by decide +kernel) (Nat.le_of_ble_eq_true rfl) ?_
  intro p e s m below meth cd args Q hQ X hr hlk hnm hM hPr
  have h_mo := hPr
  have hbs := bs
  dsimp only [inS] at hbs
  replace h_mo : PR E b (modelW E b (updC mo 0 (updZ (updZ (mo 0) 9 sp.1) 10 sp.2))) s.heap := PR.to h_mo (by rw [upd_2 e9 e10])
  refine v_iload_n X dX10_word_0 1 rfl 1 rfl ?_
  refine v_lookup X dX10_word_1 (by decide) (off := 51) (by decide) 52 (by decide) ?_
  refine v_aload_n X dX10_word_52 53 rfl 0 rfl ?_
  refine v_bipush X dX10_word_53 55 rfl rfl ?_
  refine v_bipush X dX10_word_55 57 rfl rfl ?_
  refine v_bipush X dX10_word_57 59 rfl rfl ?_
  refine v_muV X hM (h_mo.1) (c_X10_letters l E b (updC mo 0 (updZ (updZ (mo 0) 9 sp.1) 10 sp.2)) sp 105 116 110 hcr hn (by first | rfl | assumption) (by first | rfl | assumption) bs (by omega) (by omega) (by omega)) kvX10_letters kiX10_letters kl_X10_185 (q0 := 0) rfl rfl (As := [.int (zI 105), .int (zI 116), .int (zI 110)]) rfl rfl rfl dX10_word_59 62 rfl (k' := 0) (n' := 0) rfl rfl (fsI (fun q q1 q2 => (Or.inl (fsH (by omega) (by omega))))) h_mo (fun rv H1 lo1 hM hF hpo => ?_)
  obtain ⟨rfl, hw_0⟩ := hpo
  have h_mo : PR E b (modelW E b (updC mo 0 (updZ (updZ (mo 0) 9 ((nd ((mo 3)) (mo 0 8) (nd ((mo 3)) (mo 0 8) (nd ((mo 3)) (mo 0 8) sp 105) 116) 110).1)) 10 ((nd ((mo 3)) (mo 0 8) (nd ((mo 3)) (mo 0 8) (nd ((mo 3)) (mo 0 8) sp 105) 116) 110).2)))) H1 := hw_0
  show V p l e (rmL 3 0 0) s m args below meth cd Q 2 H1 lo1 0 0 62 [(0, .ref b), (1, .int (zI 119))] []
  have hf_2 := nd_b ((mo 3)) (mo 0 8) (nd ((mo 3)) (mo 0 8) (nd ((mo 3)) (mo 0 8) sp 105) 116) (110) (nd_b _ _ _ _ (nd_b _ _ _ _ (by first | assumption | (dsimp only [inS]; omega)) (by omega)) (by omega)) (by omega)
  refine v_aload_n X dX10_word_62 63 rfl 0 rfl ?_
  refine v_bipush X dX10_word_63 65 rfl rfl ?_
  refine v_bipush X dX10_word_65 67 rfl rfl ?_
  refine v_bipush X dX10_word_67 69 rfl rfl ?_
  refine v_muV X hM (h_mo.1) (c_X10_letters l E b (updC mo 0 (updZ (updZ (mo 0) 9 ((nd ((mo 3)) (mo 0 8) (nd ((mo 3)) (mo 0 8) (nd ((mo 3)) (mo 0 8) sp 105) 116) 110).1)) 10 ((nd ((mo 3)) (mo 0 8) (nd ((mo 3)) (mo 0 8) (nd ((mo 3)) (mo 0 8) sp 105) 116) 110).2))) (nd (mo 3) (mo 0 8) (nd (mo 3) (mo 0 8) (nd (mo 3) (mo 0 8) sp 105) 116) 110) 101 115 115 hcr hn (by first | rfl | assumption) (by first | rfl | assumption) (show inS (mo 0 8) (nd (mo 3) (mo 0 8) (nd (mo 3) (mo 0 8) (nd (mo 3) (mo 0 8) sp 105) 116) 110) from (by first | assumption | (dsimp only [inS]; omega))) (by omega) (by omega) (by omega)) kvX10_letters kiX10_letters kl_X10_185 (q0 := 0) rfl rfl (As := [.int (zI 101), .int (zI 115), .int (zI 115)]) rfl rfl rfl dX10_word_69 72 rfl (k' := 0) (n' := 0) rfl rfl (fsI (fun q q1 q2 => (Or.inl (fsH (by omega) (by omega))))) h_mo (fun rv H3 lo3 hM hF hpo => ?_)
  obtain ⟨rfl, hw_0⟩ := hpo
  have h_mo : PR E b (modelW E b (updC mo 0 (updZ (updZ (mo 0) 9 ((nd ((mo 3)) (mo 0 8) (nd ((mo 3)) (mo 0 8) (nd ((mo 3)) (mo 0 8) (nd (mo 3) (mo 0 8) (nd (mo 3) (mo 0 8) (nd (mo 3) (mo 0 8) sp 105) 116) 110) 101) 115) 115).1)) 10 ((nd ((mo 3)) (mo 0 8) (nd ((mo 3)) (mo 0 8) (nd ((mo 3)) (mo 0 8) (nd (mo 3) (mo 0 8) (nd (mo 3) (mo 0 8) (nd (mo 3) (mo 0 8) sp 105) 116) 110) 101) 115) 115).2)))) H3 := hw_0
  show V p l e (rmL 3 0 0) s m args below meth cd Q 2 H3 lo3 0 0 72 [(0, .ref b), (1, .int (zI 119))] []
  have hf_4 := nd_b ((mo 3)) (mo 0 8) (nd ((mo 3)) (mo 0 8) (nd ((mo 3)) (mo 0 8) (nd (mo 3) (mo 0 8) (nd (mo 3) (mo 0 8) (nd (mo 3) (mo 0 8) sp 105) 116) 110) 101) 115) (115) (nd_b _ _ _ _ (nd_b _ _ _ _ (by first | assumption | (dsimp only [inS]; omega)) (by omega)) (by omega)) (by omega)
  refine v_bipush X dX10_word_72 74 rfl rfl ?_
  subst hQ; exact m_iret X hr hlk hM dX10_word_74 rfl ⟨rfl, h_mo⟩
set_option maxHeartbeats 4000000 in
set_option maxRecDepth 20000 in
theorem c_X10_word_116 (l : Launch) (E : Nat → Nat → Nat) (b : Nat) (mo : Nat → Int → Int) (sp : Int × Int) (hcr : ∀ j : Int, 0 ≤ j → j < mo 0 8 → 0 ≤ mo 3 j ∧ mo 3 j < 128) (hn : 0 ≤ mo 0 8 ∧ mo 0 8 ≤ 60) (e9 : mo 0 9 = sp.1) (e10 : mo 0 10 = sp.2) (bs : inS (mo 0 8) sp) : Mu l yX10_word cX10_word 2 (some .int) 3 0 0 E [(b, 5)] [.ref b, .int (zI 116)] (fun H => PR E b (modelW E b mo) H) (fun rv H => rv = some (.int (zI 116)) ∧ PR E b (modelW E b (updC mo 0 (updZ (updZ (mo 0) 9 ((nd (mo 3) (mo 0 8) (nd (mo 3) (mo 0 8) (nd (mo 3) (mo 0 8) (nd (mo 3) (mo 0 8) (nd (mo 3) (mo 0 8) (nd (mo 3) (mo 0 8) sp 101) 115) 116) 105) 102) 121).1)) 10 ((nd (mo 3) (mo 0 8) (nd (mo 3) (mo 0 8) (nd (mo 3) (mo 0 8) (nd (mo 3) (mo 0 8) (nd (mo 3) (mo 0 8) (nd (mo 3) (mo 0 8) sp 101) 115) 116) 105) 102) 121).2)))) H) := by
  refine Mu.start (own := RX10) rfl (by decide +kernel) (Nat.le_of_ble_eq_true rfl) ?_
  intro p e s m below meth cd args Q hQ X hr hlk hnm hM hPr
  have h_mo := hPr
  have hbs := bs
  dsimp only [inS] at hbs
  replace h_mo : PR E b (modelW E b (updC mo 0 (updZ (updZ (mo 0) 9 sp.1) 10 sp.2))) s.heap := PR.to h_mo (by rw [upd_2 e9 e10])
  refine v_iload_n X dX10_word_0 1 rfl 1 rfl ?_
  refine v_lookup X dX10_word_1 (by decide) (off := 74) (by decide) 75 (by decide) ?_
  refine v_aload_n X dX10_word_75 76 rfl 0 rfl ?_
  refine v_bipush X dX10_word_76 78 rfl rfl ?_
  refine v_bipush X dX10_word_78 80 rfl rfl ?_
  refine v_bipush X dX10_word_80 82 rfl rfl ?_
  refine v_muV X hM (h_mo.1) (c_X10_letters l E b (updC mo 0 (updZ (updZ (mo 0) 9 sp.1) 10 sp.2)) sp 101 115 116 hcr hn (by first | rfl | assumption) (by first | rfl | assumption) bs (by omega) (by omega) (by omega)) kvX10_letters kiX10_letters kl_X10_185 (q0 := 0) rfl rfl (As := [.int (zI 101), .int (zI 115), .int (zI 116)]) rfl rfl rfl dX10_word_82 85 rfl (k' := 0) (n' := 0) rfl rfl (fsI (fun q q1 q2 => (Or.inl (fsH (by omega) (by omega))))) h_mo (fun rv H1 lo1 hM hF hpo => ?_)
  obtain ⟨rfl, hw_0⟩ := hpo
  have h_mo : PR E b (modelW E b (updC mo 0 (updZ (updZ (mo 0) 9 ((nd ((mo 3)) (mo 0 8) (nd ((mo 3)) (mo 0 8) (nd ((mo 3)) (mo 0 8) sp 101) 115) 116).1)) 10 ((nd ((mo 3)) (mo 0 8) (nd ((mo 3)) (mo 0 8) (nd ((mo 3)) (mo 0 8) sp 101) 115) 116).2)))) H1 := hw_0
  show V p l e (rmL 3 0 0) s m args below meth cd Q 2 H1 lo1 0 0 85 [(0, .ref b), (1, .int (zI 116))] []
  have hf_2 := nd_b ((mo 3)) (mo 0 8) (nd ((mo 3)) (mo 0 8) (nd ((mo 3)) (mo 0 8) sp 101) 115) (116) (nd_b _ _ _ _ (nd_b _ _ _ _ (by first | assumption | (dsimp only [inS]; omega)) (by omega)) (by omega)) (by omega)
  refine v_aload_n X dX10_word_85 86 rfl 0 rfl ?_
  refine v_bipush X dX10_word_86 88 rfl rfl ?_
  refine v_bipush X dX10_word_88 90 rfl rfl ?_
  refine v_bipush X dX10_word_90 92 rfl rfl ?_
  refine v_muV X hM (h_mo.1) (c_X10_letters l E b (updC mo 0 (updZ (updZ (mo 0) 9 ((nd ((mo 3)) (mo 0 8) (nd ((mo 3)) (mo 0 8) (nd ((mo 3)) (mo 0 8) sp 101) 115) 116).1)) 10 ((nd ((mo 3)) (mo 0 8) (nd ((mo 3)) (mo 0 8) (nd ((mo 3)) (mo 0 8) sp 101) 115) 116).2))) (nd (mo 3) (mo 0 8) (nd (mo 3) (mo 0 8) (nd (mo 3) (mo 0 8) sp 101) 115) 116) 105 102 121 hcr hn (by first | rfl | assumption) (by first | rfl | assumption) (show inS (mo 0 8) (nd (mo 3) (mo 0 8) (nd (mo 3) (mo 0 8) (nd (mo 3) (mo 0 8) sp 101) 115) 116) from (by first | assumption | (dsimp only [inS]; omega))) (by omega) (by omega) (by omega)) kvX10_letters kiX10_letters kl_X10_185 (q0 := 0) rfl rfl (As := [.int (zI 105), .int (zI 102), .int (zI 121)]) rfl rfl rfl dX10_word_92 95 rfl (k' := 0) (n' := 0) rfl rfl (fsI (fun q q1 q2 => (Or.inl (fsH (by omega) (by omega))))) h_mo (fun rv H3 lo3 hM hF hpo => ?_)
  obtain ⟨rfl, hw_0⟩ := hpo
  have h_mo : PR E b (modelW E b (updC mo 0 (updZ (updZ (mo 0) 9 ((nd ((mo 3)) (mo 0 8) (nd ((mo 3)) (mo 0 8) (nd ((mo 3)) (mo 0 8) (nd (mo 3) (mo 0 8) (nd (mo 3) (mo 0 8) (nd (mo 3) (mo 0 8) sp 101) 115) 116) 105) 102) 121).1)) 10 ((nd ((mo 3)) (mo 0 8) (nd ((mo 3)) (mo 0 8) (nd ((mo 3)) (mo 0 8) (nd (mo 3) (mo 0 8) (nd (mo 3) (mo 0 8) (nd (mo 3) (mo 0 8) sp 101) 115) 116) 105) 102) 121).2)))) H3 := hw_0
  show V p l e (rmL 3 0 0) s m args below meth cd Q 2 H3 lo3 0 0 95 [(0, .ref b), (1, .int (zI 116))] []
  have hf_4 := nd_b ((mo 3)) (mo 0 8) (nd ((mo 3)) (mo 0 8) (nd ((mo 3)) (mo 0 8) (nd (mo 3) (mo 0 8) (nd (mo 3) (mo 0 8) (nd (mo 3) (mo 0 8) sp 101) 115) 116) 105) 102) (121) (nd_b _ _ _ _ (nd_b _ _ _ _ (by first | assumption | (dsimp only [inS]; omega)) (by omega)) (by omega)) (by omega)
  refine v_bipush X dX10_word_95 97 rfl rfl ?_
  subst hQ; exact m_iret X hr hlk hM dX10_word_97 rfl ⟨rfl, h_mo⟩
set_option maxHeartbeats 4000000 in
set_option maxRecDepth 20000 in
theorem c_X10_word_113 (l : Launch) (E : Nat → Nat → Nat) (b : Nat) (mo : Nat → Int → Int) (sp : Int × Int) (hcr : ∀ j : Int, 0 ≤ j → j < mo 0 8 → 0 ≤ mo 3 j ∧ mo 3 j < 128) (hn : 0 ≤ mo 0 8 ∧ mo 0 8 ≤ 60) (e9 : mo 0 9 = sp.1) (e10 : mo 0 10 = sp.2) (bs : inS (mo 0 8) sp) : Mu l yX10_word cX10_word 2 (some .int) 3 0 0 E [(b, 5)] [.ref b, .int (zI 113)] (fun H => PR E b (modelW E b mo) H) (fun rv H => rv = some (.int (zI 113)) ∧ PR E b (modelW E b (updC mo 0 (updZ (updZ (mo 0) 9 ((nd (mo 3) (mo 0 8) (nd (mo 3) (mo 0 8) (nd (mo 3) (mo 0 8) (nd (mo 3) (mo 0 8) (nd (mo 3) (mo 0 8) (nd (mo 3) (mo 0 8) (nd (mo 3) (mo 0 8) sp 117) 101) 115) 116) 105) 111) 110).1)) 10 ((nd (mo 3) (mo 0 8) (nd (mo 3) (mo 0 8) (nd (mo 3) (mo 0 8) (nd (mo 3) (mo 0 8) (nd (mo 3) (mo 0 8) (nd (mo 3) (mo 0 8) (nd (mo 3) (mo 0 8) sp 117) 101) 115) 116) 105) 111) 110).2)))) H) := by
  refine Mu.start (own := RX10) rfl (by decide +kernel) (Nat.le_of_ble_eq_true rfl) ?_
  intro p e s m below meth cd args Q hQ X hr hlk hnm hM hPr
  have h_mo := hPr
  have hbs := bs
  dsimp only [inS] at hbs
  replace h_mo : PR E b (modelW E b (updC mo 0 (updZ (updZ (mo 0) 9 sp.1) 10 sp.2))) s.heap := PR.to h_mo (by rw [upd_2 e9 e10])
  refine v_iload_n X dX10_word_0 1 rfl 1 rfl ?_
  refine v_lookup X dX10_word_1 (by decide) (off := 97) (by decide) 98 (by decide) ?_
  refine v_aload_n X dX10_word_98 99 rfl 0 rfl ?_
  refine v_bipush X dX10_word_99 101 rfl rfl ?_
  refine v_bipush X dX10_word_101 103 rfl rfl ?_
  refine v_bipush X dX10_word_103 105 rfl rfl ?_
  refine v_muV X hM (h_mo.1) (c_X10_letters l E b (updC mo 0 (updZ (updZ (mo 0) 9 sp.1) 10 sp.2)) sp 117 101 115 hcr hn (by first | rfl | assumption) (by first | rfl | assumption) bs (by omega) (by omega) (by omega)) kvX10_letters kiX10_letters kl_X10_185 (q0 := 0) rfl rfl (As := [.int (zI 117), .int (zI 101), .int (zI 115)]) rfl rfl rfl dX10_word_105 108 rfl (k' := 0) (n' := 0) rfl rfl (fsI (fun q q1 q2 => (Or.inl (fsH (by omega) (by omega))))) h_mo (fun rv H1 lo1 hM hF hpo => ?_)
  obtain ⟨rfl, hw_0⟩ := hpo
  have h_mo : PR E b (modelW E b (updC mo 0 (updZ (updZ (mo 0) 9 ((nd ((mo 3)) (mo 0 8) (nd ((mo 3)) (mo 0 8) (nd ((mo 3)) (mo 0 8) sp 117) 101) 115).1)) 10 ((nd ((mo 3)) (mo 0 8) (nd ((mo 3)) (mo 0 8) (nd ((mo 3)) (mo 0 8) sp 117) 101) 115).2)))) H1 := hw_0
  show V p l e (rmL 3 0 0) s m args below meth cd Q 2 H1 lo1 0 0 108 [(0, .ref b), (1, .int (zI 113))] []
  have hf_2 := nd_b ((mo 3)) (mo 0 8) (nd ((mo 3)) (mo 0 8) (nd ((mo 3)) (mo 0 8) sp 117) 101) (115) (nd_b _ _ _ _ (nd_b _ _ _ _ (by first | assumption | (dsimp only [inS]; omega)) (by omega)) (by omega)) (by omega)
  refine v_aload_n X dX10_word_108 109 rfl 0 rfl ?_
  refine v_bipush X dX10_word_109 111 rfl rfl ?_
  refine v_bipush X dX10_word_111 113 rfl rfl ?_
  refine v_bipush X dX10_word_113 115 rfl rfl ?_
  refine v_muV X hM (h_mo.1) (c_X10_letters l E b (updC mo 0 (updZ (updZ (mo 0) 9 ((nd ((mo 3)) (mo 0 8) (nd ((mo 3)) (mo 0 8) (nd ((mo 3)) (mo 0 8) sp 117) 101) 115).1)) 10 ((nd ((mo 3)) (mo 0 8) (nd ((mo 3)) (mo 0 8) (nd ((mo 3)) (mo 0 8) sp 117) 101) 115).2))) (nd (mo 3) (mo 0 8) (nd (mo 3) (mo 0 8) (nd (mo 3) (mo 0 8) sp 117) 101) 115) 116 105 111 hcr hn (by first | rfl | assumption) (by first | rfl | assumption) (show inS (mo 0 8) (nd (mo 3) (mo 0 8) (nd (mo 3) (mo 0 8) (nd (mo 3) (mo 0 8) sp 117) 101) 115) from (by first | assumption | (dsimp only [inS]; omega))) (by omega) (by omega) (by omega)) kvX10_letters kiX10_letters kl_X10_185 (q0 := 0) rfl rfl (As := [.int (zI 116), .int (zI 105), .int (zI 111)]) rfl rfl rfl dX10_word_115 118 rfl (k' := 0) (n' := 0) rfl rfl (fsI (fun q q1 q2 => (Or.inl (fsH (by omega) (by omega))))) h_mo (fun rv H3 lo3 hM hF hpo => ?_)
  obtain ⟨rfl, hw_0⟩ := hpo
  have h_mo : PR E b (modelW E b (updC mo 0 (updZ (updZ (mo 0) 9 ((nd ((mo 3)) (mo 0 8) (nd ((mo 3)) (mo 0 8) (nd ((mo 3)) (mo 0 8) (nd (mo 3) (mo 0 8) (nd (mo 3) (mo 0 8) (nd (mo 3) (mo 0 8) sp 117) 101) 115) 116) 105) 111).1)) 10 ((nd ((mo 3)) (mo 0 8) (nd ((mo 3)) (mo 0 8) (nd ((mo 3)) (mo 0 8) (nd (mo 3) (mo 0 8) (nd (mo 3) (mo 0 8) (nd (mo 3) (mo 0 8) sp 117) 101) 115) 116) 105) 111).2)))) H3 := hw_0
  show V p l e (rmL 3 0 0) s m args below meth cd Q 2 H3 lo3 0 0 118 [(0, .ref b), (1, .int (zI 113))] []
  have hf_4 := nd_b ((mo 3)) (mo 0 8) (nd ((mo 3)) (mo 0 8) (nd ((mo 3)) (mo 0 8) (nd (mo 3) (mo 0 8) (nd (mo 3) (mo 0 8) (nd (mo 3) (mo 0 8) sp 117) 101) 115) 116) 105) (111) (nd_b _ _ _ _ (nd_b _ _ _ _ (by first | assumption | (dsimp only [inS]; omega)) (by omega)) (by omega)) (by omega)
  refine v_aload_n X dX10_word_118 119 rfl 0 rfl ?_
  refine v_bipush X dX10_word_119 121 rfl rfl ?_
  refine v_muV X hM (h_mo.1) (c_X10_needs l E b (updC mo 0 (updZ (updZ (mo 0) 9 ((nd ((mo 3)) (mo 0 8) (nd ((mo 3)) (mo 0 8) (nd ((mo 3)) (mo 0 8) (nd (mo 3) (mo 0 8) (nd (mo 3) (mo 0 8) (nd (mo 3) (mo 0 8) sp 117) 101) 115) 116) 105) 111).1)) 10 ((nd ((mo 3)) (mo 0 8) (nd ((mo 3)) (mo 0 8) (nd ((mo 3)) (mo 0 8) (nd (mo 3) (mo 0 8) (nd (mo 3) (mo 0 8) (nd (mo 3) (mo 0 8) sp 117) 101) 115) 116) 105) 111).2))) (nd (mo 3) (mo 0 8) (nd (mo 3) (mo 0 8) (nd (mo 3) (mo 0 8) (nd (mo 3) (mo 0 8) (nd (mo 3) (mo 0 8) (nd (mo 3) (mo 0 8) sp 117) 101) 115) 116) 105) 111) 110 hcr hn (by first | rfl | assumption) (by first | rfl | assumption) (show inS (mo 0 8) (nd (mo 3) (mo 0 8) (nd (mo 3) (mo 0 8) (nd (mo 3) (mo 0 8) (nd (mo 3) (mo 0 8) (nd (mo 3) (mo 0 8) (nd (mo 3) (mo 0 8) sp 117) 101) 115) 116) 105) 111) from (by first | assumption | (dsimp only [inS]; omega))) (by omega)) kvX10_needs kiX10_needs kl_X10_179 (q0 := 0) rfl rfl (As := [.int (zI 110)]) rfl rfl rfl dX10_word_121 124 rfl (k' := 0) (n' := 0) rfl rfl (fsI (fun q q1 q2 => (Or.inl (fsH (by omega) (by omega))))) h_mo (fun rv H5 lo5 hM hF hpo => ?_)
  obtain ⟨rfl, hw_0⟩ := hpo
  have h_mo : PR E b (modelW E b (updC mo 0 (updZ (updZ (mo 0) 9 ((nd ((mo 3)) (mo 0 8) (nd (mo 3) (mo 0 8) (nd (mo 3) (mo 0 8) (nd (mo 3) (mo 0 8) (nd (mo 3) (mo 0 8) (nd (mo 3) (mo 0 8) (nd (mo 3) (mo 0 8) sp 117) 101) 115) 116) 105) 111) 110).1)) 10 ((nd ((mo 3)) (mo 0 8) (nd (mo 3) (mo 0 8) (nd (mo 3) (mo 0 8) (nd (mo 3) (mo 0 8) (nd (mo 3) (mo 0 8) (nd (mo 3) (mo 0 8) (nd (mo 3) (mo 0 8) sp 117) 101) 115) 116) 105) 111) 110).2)))) H5 := hw_0
  show V p l e (rmL 3 0 0) s m args below meth cd Q 2 H5 lo5 0 0 124 [(0, .ref b), (1, .int (zI 113))] []
  have hf_6 := nd_b ((mo 3)) (mo 0 8) ((nd (mo 3) (mo 0 8) (nd (mo 3) (mo 0 8) (nd (mo 3) (mo 0 8) (nd (mo 3) (mo 0 8) (nd (mo 3) (mo 0 8) (nd (mo 3) (mo 0 8) sp 117) 101) 115) 116) 105) 111)) (110) (by first | assumption | (dsimp only [inS]; omega)) (by omega)
  refine v_bipush X dX10_word_124 126 rfl rfl ?_
  subst hQ; exact m_iret X hr hlk hM dX10_word_126 rfl ⟨rfl, h_mo⟩
set_option maxHeartbeats 4000000 in
set_option maxRecDepth 20000 in
theorem c_X10_word_100 (l : Launch) (E : Nat → Nat → Nat) (b : Nat) (mo : Nat → Int → Int) (sp : Int × Int) (hcr : ∀ j : Int, 0 ≤ j → j < mo 0 8 → 0 ≤ mo 3 j ∧ mo 3 j < 128) (hn : 0 ≤ mo 0 8 ∧ mo 0 8 ≤ 60) (e9 : mo 0 9 = sp.1) (e10 : mo 0 10 = sp.2) (bs : inS (mo 0 8) sp) : Mu l yX10_word cX10_word 2 (some .int) 3 0 0 E [(b, 5)] [.ref b, .int (zI 100)] (fun H => PR E b (modelW E b mo) H) (fun rv H => rv = some (.int (zI 100)) ∧ PR E b (modelW E b (updC mo 0 (updZ (updZ (mo 0) 9 ((nd (mo 3) (mo 0 8) (nd (mo 3) (mo 0 8) (nd (mo 3) (mo 0 8) (nd (mo 3) (mo 0 8) (nd (mo 3) (mo 0 8) sp 101) 99) 105) 100) 101).1)) 10 ((nd (mo 3) (mo 0 8) (nd (mo 3) (mo 0 8) (nd (mo 3) (mo 0 8) (nd (mo 3) (mo 0 8) (nd (mo 3) (mo 0 8) sp 101) 99) 105) 100) 101).2)))) H) := by
  refine Mu.start (own := RX10) rfl (by decide +kernel) (Nat.le_of_ble_eq_true rfl) ?_
  intro p e s m below meth cd args Q hQ X hr hlk hnm hM hPr
  have h_mo := hPr
  have hbs := bs
  dsimp only [inS] at hbs
  replace h_mo : PR E b (modelW E b (updC mo 0 (updZ (updZ (mo 0) 9 sp.1) 10 sp.2))) s.heap := PR.to h_mo (by rw [upd_2 e9 e10])
  refine v_iload_n X dX10_word_0 1 rfl 1 rfl ?_
  refine v_lookup X dX10_word_1 (by decide) (off := 126) (by decide) 127 (by decide) ?_
  refine v_aload_n X dX10_word_127 128 rfl 0 rfl ?_
  refine v_bipush X dX10_word_128 130 rfl rfl ?_
  refine v_bipush X dX10_word_130 132 rfl rfl ?_
  refine v_bipush X dX10_word_132 134 rfl rfl ?_
  refine v_muV X hM (h_mo.1) (c_X10_letters l E b (updC mo 0 (updZ (updZ (mo 0) 9 sp.1) 10 sp.2)) sp 101 99 105 hcr hn (by first | rfl | assumption) (by first | rfl | assumption) bs (by omega) (by omega) (by omega)) kvX10_letters kiX10_letters kl_X10_185 (q0 := 0) rfl rfl (As := [.int (zI 101), .int (zI 99), .int (zI 105)]) rfl rfl rfl dX10_word_134 137 rfl (k' := 0) (n' := 0) rfl rfl (fsI (fun q q1 q2 => (Or.inl (fsH (by omega) (by omega))))) h_mo (fun rv H1 lo1 hM hF hpo => ?_)
  obtain ⟨rfl, hw_0⟩ := hpo
  have h_mo : PR E b (modelW E b (updC mo 0 (updZ (updZ (mo 0) 9 ((nd ((mo 3)) (mo 0 8) (nd ((mo 3)) (mo 0 8) (nd ((mo 3)) (mo 0 8) sp 101) 99) 105).1)) 10 ((nd ((mo 3)) (mo 0 8) (nd ((mo 3)) (mo 0 8) (nd ((mo 3)) (mo 0 8) sp 101) 99) 105).2)))) H1 := hw_0
  show V p l e (rmL 3 0 0) s m args below meth cd Q 2 H1 lo1 0 0 137 [(0, .ref b), (1, .int (zI 100))] []
  have hf_2 := nd_b ((mo 3)) (mo 0 8) (nd ((mo 3)) (mo 0 8) (nd ((mo 3)) (mo 0 8) sp 101) 99) (105) (nd_b _ _ _ _ (nd_b _ _ _ _ (by first | assumption | (dsimp only [inS]; omega)) (by omega)) (by omega)) (by omega)
  refine v_aload_n X dX10_word_137 138 rfl 0 rfl ?_
  refine v_bipush X dX10_word_138 140 rfl rfl ?_
  refine v_muV X hM (h_mo.1) (c_X10_needs l E b (updC mo 0 (updZ (updZ (mo 0) 9 ((nd ((mo 3)) (mo 0 8) (nd ((mo 3)) (mo 0 8) (nd ((mo 3)) (mo 0 8) sp 101) 99) 105).1)) 10 ((nd ((mo 3)) (mo 0 8) (nd ((mo 3)) (mo 0 8) (nd ((mo 3)) (mo 0 8) sp 101) 99) 105).2))) (nd (mo 3) (mo 0 8) (nd (mo 3) (mo 0 8) (nd (mo 3) (mo 0 8) sp 101) 99) 105) 100 hcr hn (by first | rfl | assumption) (by first | rfl | assumption) (show inS (mo 0 8) (nd (mo 3) (mo 0 8) (nd (mo 3) (mo 0 8) (nd (mo 3) (mo 0 8) sp 101) 99) 105) from (by first | assumption | (dsimp only [inS]; omega))) (by omega)) kvX10_needs kiX10_needs kl_X10_179 (q0 := 0) rfl rfl (As := [.int (zI 100)]) rfl rfl rfl dX10_word_140 143 rfl (k' := 0) (n' := 0) rfl rfl (fsI (fun q q1 q2 => (Or.inl (fsH (by omega) (by omega))))) h_mo (fun rv H3 lo3 hM hF hpo => ?_)
  obtain ⟨rfl, hw_0⟩ := hpo
  have h_mo : PR E b (modelW E b (updC mo 0 (updZ (updZ (mo 0) 9 ((nd ((mo 3)) (mo 0 8) (nd (mo 3) (mo 0 8) (nd (mo 3) (mo 0 8) (nd (mo 3) (mo 0 8) sp 101) 99) 105) 100).1)) 10 ((nd ((mo 3)) (mo 0 8) (nd (mo 3) (mo 0 8) (nd (mo 3) (mo 0 8) (nd (mo 3) (mo 0 8) sp 101) 99) 105) 100).2)))) H3 := hw_0
  show V p l e (rmL 3 0 0) s m args below meth cd Q 2 H3 lo3 0 0 143 [(0, .ref b), (1, .int (zI 100))] []
  have hf_4 := nd_b ((mo 3)) (mo 0 8) ((nd (mo 3) (mo 0 8) (nd (mo 3) (mo 0 8) (nd (mo 3) (mo 0 8) sp 101) 99) 105)) (100) (by first | assumption | (dsimp only [inS]; omega)) (by omega)
  refine v_aload_n X dX10_word_143 144 rfl 0 rfl ?_
  refine v_bipush X dX10_word_144 146 rfl rfl ?_
  refine v_muV X hM (h_mo.1) (c_X10_needs l E b (updC mo 0 (updZ (updZ (mo 0) 9 ((nd ((mo 3)) (mo 0 8) (nd (mo 3) (mo 0 8) (nd (mo 3) (mo 0 8) (nd (mo 3) (mo 0 8) sp 101) 99) 105) 100).1)) 10 ((nd ((mo 3)) (mo 0 8) (nd (mo 3) (mo 0 8) (nd (mo 3) (mo 0 8) (nd (mo 3) (mo 0 8) sp 101) 99) 105) 100).2))) (nd (mo 3) (mo 0 8) (nd (mo 3) (mo 0 8) (nd (mo 3) (mo 0 8) (nd (mo 3) (mo 0 8) sp 101) 99) 105) 100) 101 hcr hn (by first | rfl | assumption) (by first | rfl | assumption) (show inS (mo 0 8) (nd (mo 3) (mo 0 8) (nd (mo 3) (mo 0 8) (nd (mo 3) (mo 0 8) (nd (mo 3) (mo 0 8) sp 101) 99) 105) 100) from (by first | assumption | (dsimp only [inS]; omega))) (by omega)) kvX10_needs kiX10_needs kl_X10_179 (q0 := 0) rfl rfl (As := [.int (zI 101)]) rfl rfl rfl dX10_word_146 149 rfl (k' := 0) (n' := 0) rfl rfl (fsI (fun q q1 q2 => (Or.inl (fsH (by omega) (by omega))))) h_mo (fun rv H5 lo5 hM hF hpo => ?_)
  obtain ⟨rfl, hw_0⟩ := hpo
  have h_mo : PR E b (modelW E b (updC mo 0 (updZ (updZ (mo 0) 9 ((nd ((mo 3)) (mo 0 8) (nd (mo 3) (mo 0 8) (nd (mo 3) (mo 0 8) (nd (mo 3) (mo 0 8) (nd (mo 3) (mo 0 8) sp 101) 99) 105) 100) 101).1)) 10 ((nd ((mo 3)) (mo 0 8) (nd (mo 3) (mo 0 8) (nd (mo 3) (mo 0 8) (nd (mo 3) (mo 0 8) (nd (mo 3) (mo 0 8) sp 101) 99) 105) 100) 101).2)))) H5 := hw_0
  show V p l e (rmL 3 0 0) s m args below meth cd Q 2 H5 lo5 0 0 149 [(0, .ref b), (1, .int (zI 100))] []
  have hf_6 := nd_b ((mo 3)) (mo 0 8) ((nd (mo 3) (mo 0 8) (nd (mo 3) (mo 0 8) (nd (mo 3) (mo 0 8) (nd (mo 3) (mo 0 8) sp 101) 99) 105) 100)) (101) (by first | assumption | (dsimp only [inS]; omega)) (by omega)
  refine v_bipush X dX10_word_149 151 rfl rfl ?_
  subst hQ; exact m_iret X hr hlk hM dX10_word_151 rfl ⟨rfl, h_mo⟩
set_option maxHeartbeats 4000000 in
set_option maxRecDepth 20000 in
theorem c_X10_word_97 (l : Launch) (E : Nat → Nat → Nat) (b : Nat) (mo : Nat → Int → Int) (sp : Int × Int) (hcr : ∀ j : Int, 0 ≤ j → j < mo 0 8 → 0 ≤ mo 3 j ∧ mo 3 j < 128) (hn : 0 ≤ mo 0 8 ∧ mo 0 8 ≤ 60) (e9 : mo 0 9 = sp.1) (e10 : mo 0 10 = sp.2) (bs : inS (mo 0 8) sp) : Mu l yX10_word cX10_word 2 (some .int) 3 0 0 E [(b, 5)] [.ref b, .int (zI 97)] (fun H => PR E b (modelW E b mo) H) (fun rv H => rv = some (.int (zI 97)) ∧ PR E b (modelW E b (updC mo 0 (updZ (updZ (mo 0) 9 ((nd (mo 3) (mo 0 8) (nd (mo 3) (mo 0 8) (nd (mo 3) (mo 0 8) (nd (mo 3) (mo 0 8) (nd (mo 3) (mo 0 8) sp 112) 112) 101) 97) 108).1)) 10 ((nd (mo 3) (mo 0 8) (nd (mo 3) (mo 0 8) (nd (mo 3) (mo 0 8) (nd (mo 3) (mo 0 8) (nd (mo 3) (mo 0 8) sp 112) 112) 101) 97) 108).2)))) H) := by
  refine Mu.start (own := RX10) rfl (by decide +kernel) (Nat.le_of_ble_eq_true rfl) ?_
  intro p e s m below meth cd args Q hQ X hr hlk hnm hM hPr
  have h_mo := hPr
  have hbs := bs
  dsimp only [inS] at hbs
  replace h_mo : PR E b (modelW E b (updC mo 0 (updZ (updZ (mo 0) 9 sp.1) 10 sp.2))) s.heap := PR.to h_mo (by rw [upd_2 e9 e10])
  refine v_iload_n X dX10_word_0 1 rfl 1 rfl ?_
  refine v_lookup X dX10_word_1 (by decide) (off := 151) (by decide) 152 (by decide) ?_
  refine v_aload_n X dX10_word_152 153 rfl 0 rfl ?_
  refine v_bipush X dX10_word_153 155 rfl rfl ?_
  refine v_bipush X dX10_word_155 157 rfl rfl ?_
  refine v_bipush X dX10_word_157 159 rfl rfl ?_
  refine v_muV X hM (h_mo.1) (c_X10_letters l E b (updC mo 0 (updZ (updZ (mo 0) 9 sp.1) 10 sp.2)) sp 112 112 101 hcr hn (by first | rfl | assumption) (by first | rfl | assumption) bs (by omega) (by omega) (by omega)) kvX10_letters kiX10_letters kl_X10_185 (q0 := 0) rfl rfl (As := [.int (zI 112), .int (zI 112), .int (zI 101)]) rfl rfl rfl dX10_word_159 162 rfl (k' := 0) (n' := 0) rfl rfl (fsI (fun q q1 q2 => (Or.inl (fsH (by omega) (by omega))))) h_mo (fun rv H1 lo1 hM hF hpo => ?_)
  obtain ⟨rfl, hw_0⟩ := hpo
  have h_mo : PR E b (modelW E b (updC mo 0 (updZ (updZ (mo 0) 9 ((nd ((mo 3)) (mo 0 8) (nd ((mo 3)) (mo 0 8) (nd ((mo 3)) (mo 0 8) sp 112) 112) 101).1)) 10 ((nd ((mo 3)) (mo 0 8) (nd ((mo 3)) (mo 0 8) (nd ((mo 3)) (mo 0 8) sp 112) 112) 101).2)))) H1 := hw_0
  show V p l e (rmL 3 0 0) s m args below meth cd Q 2 H1 lo1 0 0 162 [(0, .ref b), (1, .int (zI 97))] []
  have hf_2 := nd_b ((mo 3)) (mo 0 8) (nd ((mo 3)) (mo 0 8) (nd ((mo 3)) (mo 0 8) sp 112) 112) (101) (nd_b _ _ _ _ (nd_b _ _ _ _ (by first | assumption | (dsimp only [inS]; omega)) (by omega)) (by omega)) (by omega)
  refine v_aload_n X dX10_word_162 163 rfl 0 rfl ?_
  refine v_bipush X dX10_word_163 165 rfl rfl ?_
  refine v_muV X hM (h_mo.1) (c_X10_needs l E b (updC mo 0 (updZ (updZ (mo 0) 9 ((nd ((mo 3)) (mo 0 8) (nd ((mo 3)) (mo 0 8) (nd ((mo 3)) (mo 0 8) sp 112) 112) 101).1)) 10 ((nd ((mo 3)) (mo 0 8) (nd ((mo 3)) (mo 0 8) (nd ((mo 3)) (mo 0 8) sp 112) 112) 101).2))) (nd (mo 3) (mo 0 8) (nd (mo 3) (mo 0 8) (nd (mo 3) (mo 0 8) sp 112) 112) 101) 97 hcr hn (by first | rfl | assumption) (by first | rfl | assumption) (show inS (mo 0 8) (nd (mo 3) (mo 0 8) (nd (mo 3) (mo 0 8) (nd (mo 3) (mo 0 8) sp 112) 112) 101) from (by first | assumption | (dsimp only [inS]; omega))) (by omega)) kvX10_needs kiX10_needs kl_X10_179 (q0 := 0) rfl rfl (As := [.int (zI 97)]) rfl rfl rfl dX10_word_165 168 rfl (k' := 0) (n' := 0) rfl rfl (fsI (fun q q1 q2 => (Or.inl (fsH (by omega) (by omega))))) h_mo (fun rv H3 lo3 hM hF hpo => ?_)
  obtain ⟨rfl, hw_0⟩ := hpo
  have h_mo : PR E b (modelW E b (updC mo 0 (updZ (updZ (mo 0) 9 ((nd ((mo 3)) (mo 0 8) (nd (mo 3) (mo 0 8) (nd (mo 3) (mo 0 8) (nd (mo 3) (mo 0 8) sp 112) 112) 101) 97).1)) 10 ((nd ((mo 3)) (mo 0 8) (nd (mo 3) (mo 0 8) (nd (mo 3) (mo 0 8) (nd (mo 3) (mo 0 8) sp 112) 112) 101) 97).2)))) H3 := hw_0
  show V p l e (rmL 3 0 0) s m args below meth cd Q 2 H3 lo3 0 0 168 [(0, .ref b), (1, .int (zI 97))] []
  have hf_4 := nd_b ((mo 3)) (mo 0 8) ((nd (mo 3) (mo 0 8) (nd (mo 3) (mo 0 8) (nd (mo 3) (mo 0 8) sp 112) 112) 101)) (97) (by first | assumption | (dsimp only [inS]; omega)) (by omega)
  refine v_aload_n X dX10_word_168 169 rfl 0 rfl ?_
  refine v_bipush X dX10_word_169 171 rfl rfl ?_
  refine v_muV X hM (h_mo.1) (c_X10_needs l E b (updC mo 0 (updZ (updZ (mo 0) 9 ((nd ((mo 3)) (mo 0 8) (nd (mo 3) (mo 0 8) (nd (mo 3) (mo 0 8) (nd (mo 3) (mo 0 8) sp 112) 112) 101) 97).1)) 10 ((nd ((mo 3)) (mo 0 8) (nd (mo 3) (mo 0 8) (nd (mo 3) (mo 0 8) (nd (mo 3) (mo 0 8) sp 112) 112) 101) 97).2))) (nd (mo 3) (mo 0 8) (nd (mo 3) (mo 0 8) (nd (mo 3) (mo 0 8) (nd (mo 3) (mo 0 8) sp 112) 112) 101) 97) 108 hcr hn (by first | rfl | assumption) (by first | rfl | assumption) (show inS (mo 0 8) (nd (mo 3) (mo 0 8) (nd (mo 3) (mo 0 8) (nd (mo 3) (mo 0 8) (nd (mo 3) (mo 0 8) sp 112) 112) 101) 97) from (by first | assumption | (dsimp only [inS]; omega))) (by omega)) kvX10_needs kiX10_needs kl_X10_179 (q0 := 0) rfl rfl (As := [.int (zI 108)]) rfl rfl rfl dX10_word_171 174 rfl (k' := 0) (n' := 0) rfl rfl (fsI (fun q q1 q2 => (Or.inl (fsH (by omega) (by omega))))) h_mo (fun rv H5 lo5 hM hF hpo => ?_)
  obtain ⟨rfl, hw_0⟩ := hpo
  have h_mo : PR E b (modelW E b (updC mo 0 (updZ (updZ (mo 0) 9 ((nd ((mo 3)) (mo 0 8) (nd (mo 3) (mo 0 8) (nd (mo 3) (mo 0 8) (nd (mo 3) (mo 0 8) (nd (mo 3) (mo 0 8) sp 112) 112) 101) 97) 108).1)) 10 ((nd ((mo 3)) (mo 0 8) (nd (mo 3) (mo 0 8) (nd (mo 3) (mo 0 8) (nd (mo 3) (mo 0 8) (nd (mo 3) (mo 0 8) sp 112) 112) 101) 97) 108).2)))) H5 := hw_0
  show V p l e (rmL 3 0 0) s m args below meth cd Q 2 H5 lo5 0 0 174 [(0, .ref b), (1, .int (zI 97))] []
  have hf_6 := nd_b ((mo 3)) (mo 0 8) ((nd (mo 3) (mo 0 8) (nd (mo 3) (mo 0 8) (nd (mo 3) (mo 0 8) (nd (mo 3) (mo 0 8) sp 112) 112) 101) 97)) (108) (by first | assumption | (dsimp only [inS]; omega)) (by omega)
  refine v_bipush X dX10_word_174 176 rfl rfl ?_
  subst hQ; exact m_iret X hr hlk hM dX10_word_176 rfl ⟨rfl, h_mo⟩
set_option maxHeartbeats 4000000 in
set_option maxRecDepth 20000 in
theorem c_X10_word_99l (l : Launch) (E : Nat → Nat → Nat) (b : Nat) (mo : Nat → Int → Int) (sp : Int × Int) (hcr : ∀ j : Int, 0 ≤ j → j < mo 0 8 → 0 ≤ mo 3 j ∧ mo 3 j < 128) (hn : 0 ≤ mo 0 8 ∧ mo 0 8 ≤ 60) (e9 : mo 0 9 = sp.1) (e10 : mo 0 10 = sp.2) (bs : inS (mo 0 8) sp) (hl : sgM (mo 3) (mo 0 8) sp.1 = 108) : Mu l yX10_word cX10_word 2 (some .int) 3 0 0 E [(b, 5)] [.ref b, .int (zI 99)] (fun H => PR E b (modelW E b mo) H) (fun rv H => rv = some (.int (zI 108)) ∧ PR E b (modelW E b (updC mo 0 (updZ (updZ (mo 0) 9 ((nd (mo 3) (mo 0 8) (nd (mo 3) (mo 0 8) (nd (mo 3) (mo 0 8) (nd (mo 3) (mo 0 8) sp 108) 111) 115) 101).1)) 10 ((nd (mo 3) (mo 0 8) (nd (mo 3) (mo 0 8) (nd (mo 3) (mo 0 8) (nd (mo 3) (mo 0 8) sp 108) 111) 115) 101).2)))) H) := by
  refine Mu.start (own := RX10) rfl (by decide +kernel) (Nat.le_of_ble_eq_true rfl) ?_
  intro p e s m below meth cd args Q hQ X hr hlk hnm hM hPr
  have h_mo := hPr
  have hbs := bs
  dsimp only [inS] at hbs
  replace h_mo : PR E b (modelW E b (updC mo 0 (updZ (updZ (mo 0) 9 sp.1) 10 sp.2))) s.heap := PR.to h_mo (by rw [upd_2 e9 e10])
  refine v_iload_n X dX10_word_0 1 rfl 1 rfl ?_
  refine v_lookup X dX10_word_1 (by decide) (off := 176) (by decide) 177 (by decide) ?_
  refine v_aload_n X dX10_word_177 178 rfl 0 rfl ?_
  refine v_rdV X hM.C h_mo.1 (c_X10_sign l E b (updC mo 0 (updZ (updZ (mo 0) 9 sp.1) 10 sp.2)) sp hcr hn (by first | rfl | assumption) bs) kvX10_sign kiX10_sign kl_X10_175 rfl rfl (As := []) rfl rfl rfl dX10_word_178 181 rfl ?_
  show V p l e (rmL 3 0 0) s m args below meth cd Q 2 s.heap [] 0 0 181 [(0, .ref b), (1, .int (zI 99))] [.int (zI (sgM (mo 3) (mo 0 8) sp.1))]
  have hf_1 := sgM_b ((mo 3)) (mo 0 8) sp.1 hcr (by first | omega | (dsimp only; omega))
  refine v_bipush X dX10_word_181 183 rfl rfl ?_
  refine v_icmp_ne X (by omega) (by omega) dX10_word_183 186 205 rfl (by decide) (fun c_2 => ?_) (fun c_2 => ?_)
  · skip
    exfalso; omega
  · skip
    refine v_aload_n X dX10_word_186 187 rfl 0 rfl ?_
    refine v_bipush X dX10_word_187 189 rfl rfl ?_
    refine v_bipush X dX10_word_189 191 rfl rfl ?_
    refine v_bipush X dX10_word_191 193 rfl rfl ?_
    refine v_muV X hM (h_mo.1) (c_X10_letters l E b (updC mo 0 (updZ (updZ (mo 0) 9 sp.1) 10 sp.2)) sp 108 111 115 hcr hn (by first | rfl | assumption) (by first | rfl | assumption) bs (by omega) (by omega) (by omega)) kvX10_letters kiX10_letters kl_X10_185 (q0 := 0) rfl rfl (As := [.int (zI 108), .int (zI 111), .int (zI 115)]) rfl rfl rfl dX10_word_193 196 rfl (k' := 0) (n' := 0) rfl rfl (fsI (fun q q1 q2 => (Or.inl (fsH (by omega) (by omega))))) h_mo (fun rv H3 lo3 hM hF hpo => ?_)
    obtain ⟨rfl, hw_0⟩ := hpo
    have h_mo : PR E b (modelW E b (updC mo 0 (updZ (updZ (mo 0) 9 ((nd ((mo 3)) (mo 0 8) (nd ((mo 3)) (mo 0 8) (nd ((mo 3)) (mo 0 8) sp 108) 111) 115).1)) 10 ((nd ((mo 3)) (mo 0 8) (nd ((mo 3)) (mo 0 8) (nd ((mo 3)) (mo 0 8) sp 108) 111) 115).2)))) H3 := hw_0
    show V p l e (rmL 3 0 0) s m args below meth cd Q 2 H3 lo3 0 0 196 [(0, .ref b), (1, .int (zI 99))] []
    have hf_4 := nd_b ((mo 3)) (mo 0 8) (nd ((mo 3)) (mo 0 8) (nd ((mo 3)) (mo 0 8) sp 108) 111) (115) (nd_b _ _ _ _ (nd_b _ _ _ _ (by first | assumption | (dsimp only [inS]; omega)) (by omega)) (by omega)) (by omega)
    refine v_aload_n X dX10_word_196 197 rfl 0 rfl ?_
    refine v_bipush X dX10_word_197 199 rfl rfl ?_
    refine v_muV X hM (h_mo.1) (c_X10_needs l E b (updC mo 0 (updZ (updZ (mo 0) 9 ((nd ((mo 3)) (mo 0 8) (nd ((mo 3)) (mo 0 8) (nd ((mo 3)) (mo 0 8) sp 108) 111) 115).1)) 10 ((nd ((mo 3)) (mo 0 8) (nd ((mo 3)) (mo 0 8) (nd ((mo 3)) (mo 0 8) sp 108) 111) 115).2))) (nd (mo 3) (mo 0 8) (nd (mo 3) (mo 0 8) (nd (mo 3) (mo 0 8) sp 108) 111) 115) 101 hcr hn (by first | rfl | assumption) (by first | rfl | assumption) (show inS (mo 0 8) (nd (mo 3) (mo 0 8) (nd (mo 3) (mo 0 8) (nd (mo 3) (mo 0 8) sp 108) 111) 115) from (by first | assumption | (dsimp only [inS]; omega))) (by omega)) kvX10_needs kiX10_needs kl_X10_179 (q0 := 0) rfl rfl (As := [.int (zI 101)]) rfl rfl rfl dX10_word_199 202 rfl (k' := 0) (n' := 0) rfl rfl (fsI (fun q q1 q2 => (Or.inl (fsH (by omega) (by omega))))) h_mo (fun rv H5 lo5 hM hF hpo => ?_)
    obtain ⟨rfl, hw_0⟩ := hpo
    have h_mo : PR E b (modelW E b (updC mo 0 (updZ (updZ (mo 0) 9 ((nd ((mo 3)) (mo 0 8) (nd (mo 3) (mo 0 8) (nd (mo 3) (mo 0 8) (nd (mo 3) (mo 0 8) sp 108) 111) 115) 101).1)) 10 ((nd ((mo 3)) (mo 0 8) (nd (mo 3) (mo 0 8) (nd (mo 3) (mo 0 8) (nd (mo 3) (mo 0 8) sp 108) 111) 115) 101).2)))) H5 := hw_0
    show V p l e (rmL 3 0 0) s m args below meth cd Q 2 H5 lo5 0 0 202 [(0, .ref b), (1, .int (zI 99))] []
    have hf_6 := nd_b ((mo 3)) (mo 0 8) ((nd (mo 3) (mo 0 8) (nd (mo 3) (mo 0 8) (nd (mo 3) (mo 0 8) sp 108) 111) 115)) (101) (by first | assumption | (dsimp only [inS]; omega)) (by omega)
    refine v_bipush X dX10_word_202 204 rfl rfl ?_
    subst hQ; exact m_iret X hr hlk hM dX10_word_204 rfl ⟨rfl, h_mo⟩
set_option maxHeartbeats 4000000 in
set_option maxRecDepth 20000 in
theorem c_X10_word_99h (l : Launch) (E : Nat → Nat → Nat) (b : Nat) (mo : Nat → Int → Int) (sp : Int × Int) (hcr : ∀ j : Int, 0 ≤ j → j < mo 0 8 → 0 ≤ mo 3 j ∧ mo 3 j < 128) (hn : 0 ≤ mo 0 8 ∧ mo 0 8 ≤ 60) (e9 : mo 0 9 = sp.1) (e10 : mo 0 10 = sp.2) (bs : inS (mo 0 8) sp) (hl : ¬ sgM (mo 3) (mo 0 8) sp.1 = 108) : Mu l yX10_word cX10_word 2 (some .int) 3 0 0 E [(b, 5)] [.ref b, .int (zI 99)] (fun H => PR E b (modelW E b mo) H) (fun rv H => rv = some (.int (zI 99)) ∧ PR E b (modelW E b (updC mo 0 (updZ (updZ (mo 0) 9 ((nd (mo 3) (mo 0 8) (nd (mo 3) (mo 0 8) (nd (mo 3) (mo 0 8) (nd (mo 3) (mo 0 8) (nd (mo 3) (mo 0 8) sp 104) 97) 114) 103) 101).1)) 10 ((nd (mo 3) (mo 0 8) (nd (mo 3) (mo 0 8) (nd (mo 3) (mo 0 8) (nd (mo 3) (mo 0 8) (nd (mo 3) (mo 0 8) sp 104) 97) 114) 103) 101).2)))) H) := by
  refine Mu.start (own := RX10) rfl (by decide +kernel) (Nat.le_of_ble_eq_true rfl) ?_
  intro p e s m below meth cd args Q hQ X hr hlk hnm hM hPr
  have h_mo := hPr
  have hbs := bs
  dsimp only [inS] at hbs
  replace h_mo : PR E b (modelW E b (updC mo 0 (updZ (updZ (mo 0) 9 sp.1) 10 sp.2))) s.heap := PR.to h_mo (by rw [upd_2 e9 e10])
  refine v_iload_n X dX10_word_0 1 rfl 1 rfl ?_
  refine v_lookup X dX10_word_1 (by decide) (off := 176) (by decide) 177 (by decide) ?_
  refine v_aload_n X dX10_word_177 178 rfl 0 rfl ?_
  refine v_rdV X hM.C h_mo.1 (c_X10_sign l E b (updC mo 0 (updZ (updZ (mo 0) 9 sp.1) 10 sp.2)) sp hcr hn (by first | rfl | assumption) bs) kvX10_sign kiX10_sign kl_X10_175 rfl rfl (As := []) rfl rfl rfl dX10_word_178 181 rfl ?_
  show V p l e (rmL 3 0 0) s m args below meth cd Q 2 s.heap [] 0 0 181 [(0, .ref b), (1, .int (zI 99))] [.int (zI (sgM (mo 3) (mo 0 8) sp.1))]
  have hf_1 := sgM_b ((mo 3)) (mo 0 8) sp.1 hcr (by first | omega | (dsimp only; omega))
  refine v_bipush X dX10_word_181 183 rfl rfl ?_
  refine v_icmp_ne X (by omega) (by omega) dX10_word_183 186 205 rfl (by decide) (fun c_2 => ?_) (fun c_2 => ?_)
  · skip
    refine v_aload_n X dX10_word_205 206 rfl 0 rfl ?_
    refine v_bipush X dX10_word_206 208 rfl rfl ?_
    refine v_bipush X dX10_word_208 210 rfl rfl ?_
    refine v_bipush X dX10_word_210 212 rfl rfl ?_
    refine v_muV X hM (h_mo.1) (c_X10_letters l E b (updC mo 0 (updZ (updZ (mo 0) 9 sp.1) 10 sp.2)) sp 104 97 114 hcr hn (by first | rfl | assumption) (by first | rfl | assumption) bs (by omega) (by omega) (by omega)) kvX10_letters kiX10_letters kl_X10_185 (q0 := 0) rfl rfl (As := [.int (zI 104), .int (zI 97), .int (zI 114)]) rfl rfl rfl dX10_word_212 215 rfl (k' := 0) (n' := 0) rfl rfl (fsI (fun q q1 q2 => (Or.inl (fsH (by omega) (by omega))))) h_mo (fun rv H3 lo3 hM hF hpo => ?_)
    obtain ⟨rfl, hw_0⟩ := hpo
    have h_mo : PR E b (modelW E b (updC mo 0 (updZ (updZ (mo 0) 9 ((nd ((mo 3)) (mo 0 8) (nd ((mo 3)) (mo 0 8) (nd ((mo 3)) (mo 0 8) sp 104) 97) 114).1)) 10 ((nd ((mo 3)) (mo 0 8) (nd ((mo 3)) (mo 0 8) (nd ((mo 3)) (mo 0 8) sp 104) 97) 114).2)))) H3 := hw_0
    show V p l e (rmL 3 0 0) s m args below meth cd Q 2 H3 lo3 0 0 215 [(0, .ref b), (1, .int (zI 99))] []
    have hf_4 := nd_b ((mo 3)) (mo 0 8) (nd ((mo 3)) (mo 0 8) (nd ((mo 3)) (mo 0 8) sp 104) 97) (114) (nd_b _ _ _ _ (nd_b _ _ _ _ (by first | assumption | (dsimp only [inS]; omega)) (by omega)) (by omega)) (by omega)
    refine v_aload_n X dX10_word_215 216 rfl 0 rfl ?_
    refine v_bipush X dX10_word_216 218 rfl rfl ?_
    refine v_muV X hM (h_mo.1) (c_X10_needs l E b (updC mo 0 (updZ (updZ (mo 0) 9 ((nd ((mo 3)) (mo 0 8) (nd ((mo 3)) (mo 0 8) (nd ((mo 3)) (mo 0 8) sp 104) 97) 114).1)) 10 ((nd ((mo 3)) (mo 0 8) (nd ((mo 3)) (mo 0 8) (nd ((mo 3)) (mo 0 8) sp 104) 97) 114).2))) (nd (mo 3) (mo 0 8) (nd (mo 3) (mo 0 8) (nd (mo 3) (mo 0 8) sp 104) 97) 114) 103 hcr hn (by first | rfl | assumption) (by first | rfl | assumption) (show inS (mo 0 8) (nd (mo 3) (mo 0 8) (nd (mo 3) (mo 0 8) (nd (mo 3) (mo 0 8) sp 104) 97) 114) from (by first | assumption | (dsimp only [inS]; omega))) (by omega)) kvX10_needs kiX10_needs kl_X10_179 (q0 := 0) rfl rfl (As := [.int (zI 103)]) rfl rfl rfl dX10_word_218 221 rfl (k' := 0) (n' := 0) rfl rfl (fsI (fun q q1 q2 => (Or.inl (fsH (by omega) (by omega))))) h_mo (fun rv H5 lo5 hM hF hpo => ?_)
    obtain ⟨rfl, hw_0⟩ := hpo
    have h_mo : PR E b (modelW E b (updC mo 0 (updZ (updZ (mo 0) 9 ((nd ((mo 3)) (mo 0 8) (nd (mo 3) (mo 0 8) (nd (mo 3) (mo 0 8) (nd (mo 3) (mo 0 8) sp 104) 97) 114) 103).1)) 10 ((nd ((mo 3)) (mo 0 8) (nd (mo 3) (mo 0 8) (nd (mo 3) (mo 0 8) (nd (mo 3) (mo 0 8) sp 104) 97) 114) 103).2)))) H5 := hw_0
    show V p l e (rmL 3 0 0) s m args below meth cd Q 2 H5 lo5 0 0 221 [(0, .ref b), (1, .int (zI 99))] []
    have hf_6 := nd_b ((mo 3)) (mo 0 8) ((nd (mo 3) (mo 0 8) (nd (mo 3) (mo 0 8) (nd (mo 3) (mo 0 8) sp 104) 97) 114)) (103) (by first | assumption | (dsimp only [inS]; omega)) (by omega)
    refine v_aload_n X dX10_word_221 222 rfl 0 rfl ?_
    refine v_bipush X dX10_word_222 224 rfl rfl ?_
    refine v_muV X hM (h_mo.1) (c_X10_needs l E b (updC mo 0 (updZ (updZ (mo 0) 9 ((nd ((mo 3)) (mo 0 8) (nd (mo 3) (mo 0 8) (nd (mo 3) (mo 0 8) (nd (mo 3) (mo 0 8) sp 104) 97) 114) 103).1)) 10 ((nd ((mo 3)) (mo 0 8) (nd (mo 3) (mo 0 8) (nd (mo 3) (mo 0 8) (nd (mo 3) (mo 0 8) sp 104) 97) 114) 103).2))) (nd (mo 3) (mo 0 8) (nd (mo 3) (mo 0 8) (nd (mo 3) (mo 0 8) (nd (mo 3) (mo 0 8) sp 104) 97) 114) 103) 101 hcr hn (by first | rfl | assumption) (by first | rfl | assumption) (show inS (mo 0 8) (nd (mo 3) (mo 0 8) (nd (mo 3) (mo 0 8) (nd (mo 3) (mo 0 8) (nd (mo 3) (mo 0 8) sp 104) 97) 114) 103) from (by first | assumption | (dsimp only [inS]; omega))) (by omega)) kvX10_needs kiX10_needs kl_X10_179 (q0 := 0) rfl rfl (As := [.int (zI 101)]) rfl rfl rfl dX10_word_224 227 rfl (k' := 0) (n' := 0) rfl rfl (fsI (fun q q1 q2 => (Or.inl (fsH (by omega) (by omega))))) h_mo (fun rv H7 lo7 hM hF hpo => ?_)
    obtain ⟨rfl, hw_0⟩ := hpo
    have h_mo : PR E b (modelW E b (updC mo 0 (updZ (updZ (mo 0) 9 ((nd ((mo 3)) (mo 0 8) (nd (mo 3) (mo 0 8) (nd (mo 3) (mo 0 8) (nd (mo 3) (mo 0 8) (nd (mo 3) (mo 0 8) sp 104) 97) 114) 103) 101).1)) 10 ((nd ((mo 3)) (mo 0 8) (nd (mo 3) (mo 0 8) (nd (mo 3) (mo 0 8) (nd (mo 3) (mo 0 8) (nd (mo 3) (mo 0 8) sp 104) 97) 114) 103) 101).2)))) H7 := hw_0
    show V p l e (rmL 3 0 0) s m args below meth cd Q 2 H7 lo7 0 0 227 [(0, .ref b), (1, .int (zI 99))] []
    have hf_8 := nd_b ((mo 3)) (mo 0 8) ((nd (mo 3) (mo 0 8) (nd (mo 3) (mo 0 8) (nd (mo 3) (mo 0 8) (nd (mo 3) (mo 0 8) sp 104) 97) 114) 103)) (101) (by first | assumption | (dsimp only [inS]; omega)) (by omega)
    refine v_bipush X dX10_word_227 229 rfl rfl ?_
    subst hQ; exact m_iret X hr hlk hM dX10_word_229 rfl ⟨rfl, h_mo⟩
  · skip
    exfalso; omega
