/-! the reference's blocks of 492: copies, the ring -/
def cpA (g : Int → Int) (a c : Int) (i : Nat) : Int → Int := fun j => if 492 * c ≤ j ∧ j < 492 * c + (i : Int) then g (j - 492 * c + 492 * a) else g j
def cpG (g : Int → Int) (a c : Int) : Int → Int := cpA g a c 492
theorem cpA_0 (g : Int → Int) (a c : Int) : cpA g a c 0 = g := by
  funext j
  exact if_neg (by omega)
theorem cpA_s {g : Int → Int} {a c : Int} {i : Nat} (h : i < 492) (hac : ¬ a = c) : updZ (cpA g a c i) (492 * c + (i : Int)) (cpA g a c i (492 * a + (i : Int))) = cpA g a c (i + 1) := by
  funext j
  unfold updZ
  by_cases e : j = 492 * c + (i : Int)
  · rw [if_pos e]
    subst e
    have e1 : cpA g a c i (492 * a + (i : Int)) = g (492 * a + (i : Int)) := if_neg (by omega)
    have e2 : cpA g a c (i + 1) (492 * c + (i : Int)) = g (492 * c + (i : Int) - 492 * c + 492 * a) := if_pos (by omega)
    rw [e1, e2]
    congr 1
    omega
  · rw [if_neg e]
    unfold cpA
    by_cases q : 492 * c ≤ j ∧ j < 492 * c + (i : Int)
    · rw [if_pos q, if_pos (by omega)]
    · rw [if_neg q, if_neg (by omega)]
theorem cpG_in {g : Int → Int} {a c i : Int} (h0 : 0 ≤ i) (h1 : i < 492) : cpG g a c (492 * c + i) = g (492 * a + i) := by
  have e : cpG g a c (492 * c + i) = g (492 * c + i - 492 * c + 492 * a) := if_pos (by omega)
  rw [e]
  congr 1
  omega
theorem cpG_out {g : Int → Int} {a c j : Int} (h : j < 492 * c ∨ 492 * c + 492 ≤ j) : cpG g a c j = g j := if_neg (by omega)
def shF (g : Int → Int) : Nat → Int → Int
  | 0 => g
  | n + 1 => cpG (shF g n) ((n : Int) + 1 + 1) ((n : Int) + 1)
theorem shF_at (g : Int → Int) : ∀ (n : Nat) (j i : Int), 0 ≤ i → i < 492 → shF g n (492 * j + i) = if 1 ≤ j ∧ j ≤ (n : Int) then g (492 * (j + 1) + i) else g (492 * j + i)
  | 0, j, i, _, _ => (if_neg (by omega)).symm
  | n + 1, j, i, h0, h1 => by
    show cpG (shF g n) ((n : Int) + 1 + 1) ((n : Int) + 1) (492 * j + i) = _
    by_cases e : j = (n : Int) + 1
    · subst e
      rw [cpG_in h0 h1, shF_at g n _ i h0 h1, if_neg (by omega), if_pos (by omega)]
    · rw [cpG_out (by omega), shF_at g n j i h0 h1]
      by_cases q : 1 ≤ j ∧ j ≤ (n : Int)
      · rw [if_pos q, if_pos (by omega)]
      · rw [if_neg q, if_neg (by omega)]
def endG (g : Int → Int) (sz : Int) : Int → Int := if sz = 8 then cpG (shF g 7) 10 8 else cpG g 10 (sz + 1)
/-- the j-th block -/
def shB (g : Int → Int) (j : Int) : Int → Int := fun i => g (492 * j + i)
def ri (nx sz j : Int) : Nat := ((nx - 1 - (sz - j)) % 8).toNat
def RelK (co : Nat → Int → Int) (g : Int → Int) : Prop := OkC co ∧ RelC co g
theorem RelK.eq {co : Nat → Int → Int} {g g' : Int → Int} (h : RelK co g) (e : ∀ i : Int, 0 ≤ i → i < 492 → g' i = g i) : RelK co g' := ⟨h.1, h.2.of_eq h.1 e⟩
/-- the present court, those ahead of the latest changes, the saved one -/
def RelM (co cv : Nat → Int → Int) (hc : Nat → Nat → Int → Int) (nx sz hs : Int) (g : Int → Int) : Prop := RelK co g ∧ (∀ j, 1 ≤ j → j ≤ sz → RelK (hc (ri nx sz j)) (shB g j)) ∧ (hs = 1 → RelK cv (shB g 9))
theorem shB_0 (g : Int → Int) {i : Int} : shB g 0 i = g i := by
  unfold shB
  congr 1
  omega
theorem RelM.push {co cv co' : Nat → Int → Int} {hc : Nat → Nat → Int → Int} {nx sz hs : Int} {g g1 : Int → Int} (h : RelM co cv hc nx sz hs g) (hk : RelK co' g1) (hg : ∀ i : Int, 492 ≤ i → g1 i = cpG g 0 10 i) (n0 : 0 ≤ nx) (n1 : nx < 8) (s0 : 0 ≤ sz) (s1 : sz ≤ 8) :
    RelM co' cv (fun j => if j = nx.toNat then co else hc j) (if nx < 7 then nx + 1 else 0) (min (sz + 1) 8) hs (endG g1 sz) := by
  obtain ⟨h1, h2, h3⟩ := h
  have hlow : ∀ i : Int, 0 ≤ i → i < 492 → endG g1 sz i = g1 i := by
    intro i a b
    unfold endG
    split
    · rw [cpG_out (by omega)]
      have := shF_at g1 7 0 i a b
      rw [if_neg (by omega)] at this
      rw [show (492 : Int) * 0 + i = i by omega] at this
      exact this
    · exact cpG_out (by omega)
  have hm : min (sz + 1) 8 = if sz = 8 then 8 else sz + 1 := by split <;> omega
  have h9 : ∀ i : Int, 0 ≤ i → i < 492 → shB (endG g1 sz) 9 i = shB g 9 i := by
    intro i a b
    unfold shB endG
    split
    · rw [cpG_out (by omega), shF_at g1 7 9 i a b, if_neg (by omega), hg _ (by omega), cpG_out (by omega)]
    · rw [cpG_out (by omega), hg _ (by omega), cpG_out (by omega)]
  refine ⟨hk.eq hlow, fun j j0 j1 => ?_, fun q => (h3 q).eq h9⟩
  rw [hm] at j1 ⊢
  by_cases f : sz = 8
  · rw [if_pos f] at j1 ⊢
    by_cases e : j = 8
    · have er : ri (if nx < 7 then nx + 1 else 0) 8 j = nx.toNat := by
        unfold ri
        split <;> omega
      rw [er]
      dsimp only
      rw [if_pos rfl]
      refine h1.eq (fun i a b => ?_)
      unfold shB endG
      rw [if_pos f, e, cpG_in a b, shF_at g1 7 10 i a b, if_neg (by omega), hg _ (by omega)]
      have := cpG_in (g := g) (a := 0) (c := 10) a b
      rw [this]
      congr 1
      omega
    · have er : ri (if nx < 7 then nx + 1 else 0) 8 j = ri nx sz (j + 1) := by
        unfold ri
        split <;> omega
      have en : ri nx sz (j + 1) ≠ nx.toNat := by
        unfold ri
        omega
      rw [er]
      dsimp only
      rw [if_neg en]
      refine (h2 (j + 1) (by omega) (by omega)).eq (fun i a b => ?_)
      unfold shB endG
      rw [if_pos f, cpG_out (by omega), shF_at g1 7 j i a b, if_pos (by omega), hg _ (by omega), cpG_out (by omega)]
  · rw [if_neg f] at j1 ⊢
    by_cases e : j = sz + 1
    · have er : ri (if nx < 7 then nx + 1 else 0) (sz + 1) j = nx.toNat := by
        unfold ri
        split <;> omega
      rw [er]
      dsimp only
      rw [if_pos rfl]
      refine h1.eq (fun i a b => ?_)
      unfold shB endG
      rw [if_neg f, e, cpG_in a b, hg _ (by omega)]
      have := cpG_in (g := g) (a := 0) (c := 10) a b
      rw [this]
      congr 1
      omega
    · have er : ri (if nx < 7 then nx + 1 else 0) (sz + 1) j = ri nx sz j := by
        unfold ri
        split <;> omega
      have en : ri nx sz j ≠ nx.toNat := by
        unfold ri
        omega
      rw [er]
      dsimp only
      rw [if_neg en]
      refine (h2 j j0 (by omega)).eq (fun i a b => ?_)
      unfold shB endG
      rw [if_neg f, cpG_out (by omega), hg _ (by omega), cpG_out (by omega)]
/-- begun and refused: as it was -/
theorem RelM.back {co cv : Nat → Int → Int} {hc : Nat → Nat → Int → Int} {nx sz hs : Int} {g g1 : Int → Int} (h : RelM co cv hc nx sz hs g) (hg : ∀ i : Int, 492 ≤ i → g1 i = cpG g 0 10 i) (s1 : sz ≤ 8) : RelM co cv hc nx sz hs (cpG g1 10 0) := by
  obtain ⟨h1, h2, h3⟩ := h
  refine ⟨h1.eq (fun i a b => ?_), fun j j0 j1 => (h2 j j0 j1).eq (fun i a b => ?_), fun q => (h3 q).eq (fun i a b => ?_)⟩
  · have e := cpG_in (g := g1) (a := 10) (c := 0) a b
    rw [show (492 : Int) * 0 + i = i by omega] at e
    rw [e, hg _ (by omega)]
    have e2 := cpG_in (g := g) (a := 0) (c := 10) a b
    rw [e2]
    congr 1
    omega
  · unfold shB
    rw [cpG_out (by omega), hg _ (by omega), cpG_out (by omega)]
  · unfold shB
    rw [cpG_out (by omega), hg _ (by omega), cpG_out (by omega)]
theorem RelM.undo {co cv : Nat → Int → Int} {hc : Nat → Nat → Int → Int} {nx sz hs : Int} {g : Int → Int} (h : RelM co cv hc nx sz hs g) (n0 : 0 ≤ nx) (n1 : nx < 8) (s0 : 0 < sz) (s1 : sz ≤ 8) : RelM (hc (if 0 < nx then nx - 1 else 7).toNat) cv hc (if 0 < nx then nx - 1 else 7) (sz - 1) hs (cpG g sz 0) := by
  obtain ⟨h1, h2, h3⟩ := h
  have er : ri nx sz sz = (if 0 < nx then nx - 1 else 7).toNat := by
    unfold ri
    split <;> omega
  have hz := h2 sz (by omega) (by omega)
  rw [er] at hz
  refine ⟨hz.eq (fun i a b => ?_), fun j j0 j1 => ?_, fun q => (h3 q).eq (fun i a b => ?_)⟩
  · have e := cpG_in (g := g) (a := sz) (c := 0) a b
    rw [show (492 : Int) * 0 + i = i by omega] at e
    exact e
  · have er2 : ri (if 0 < nx then nx - 1 else 7) (sz - 1) j = ri nx sz j := by
      unfold ri
      split <;> omega
    rw [er2]
    exact (h2 j j0 (by omega)).eq (fun i a b => by unfold shB; rw [cpG_out (by omega)])
  · unfold shB
    rw [cpG_out (by omega)]
theorem RelM.save {co cv : Nat → Int → Int} {hc : Nat → Nat → Int → Int} {nx sz hs : Int} {g : Int → Int} (h : RelM co cv hc nx sz hs g) (s1 : sz ≤ 8) : RelM co co hc nx sz 1 (cpG g 0 9) := by
  obtain ⟨h1, h2, h3⟩ := h
  refine ⟨h1.eq (fun i a b => cpG_out (by omega)), fun j j0 j1 => (h2 j j0 j1).eq (fun i a b => by unfold shB; rw [cpG_out (by omega)]), fun q => h1.eq (fun i a b => ?_)⟩
  unfold shB
  rw [cpG_in a b]
  congr 1
  omega
theorem RelM.rest {co cv : Nat → Int → Int} {hc : Nat → Nat → Int → Int} {nx sz hs : Int} {g : Int → Int} (h : RelM co cv hc nx sz hs g) (h1s : hs = 1) : RelM cv cv hc nx 0 hs (cpG g 9 0) := by
  obtain ⟨h1, h2, h3⟩ := h
  refine ⟨(h3 h1s).eq (fun i a b => ?_), fun j j0 j1 => by omega, fun q => (h3 q).eq (fun i a b => by unfold shB; rw [cpG_out (by omega)])⟩
  have e := cpG_in (g := g) (a := 9) (c := 0) a b
  rw [show (492 : Int) * 0 + i = i by omega] at e
  exact e
def clA (g : Int → Int) (t : Int) (i : Nat) : Int → Int := fun j => if 12 + 30 * t ≤ j ∧ j < 12 + 30 * t + (i : Int) then 0 else g j
theorem clA_0 (g : Int → Int) (t : Int) : clA g t 0 = g := by
  funext j
  exact if_neg (by omega)
theorem clA_s {g : Int → Int} {t : Int} {i : Nat} : updZ (clA g t i) (12 + 30 * t + (i : Int)) 0 = clA g t (i + 1) := by
  funext j
  unfold updZ clA
  by_cases e : j = 12 + 30 * t + (i : Int)
  · rw [if_pos e, if_pos (by omega)]
  · rw [if_neg e]
    by_cases q : 12 + 30 * t ≤ j ∧ j < 12 + 30 * t + (i : Int)
    · rw [if_pos q, if_pos (by omega)]
    · rw [if_neg q, if_neg (by omega)]
theorem clA_ne {g : Int → Int} {t j : Int} {i : Nat} (h : ¬ (12 + 30 * t ≤ j ∧ j < 12 + 30 * t + (i : Int))) : clA g t i j = g j := if_neg h
set_option maxHeartbeats 4000000 in
set_option maxRecDepth 20000 in
theorem c_X10_copies (l : Launch) (E : Nat → Nat → Nat) (b : Nat) (mo : Nat → Int → Int) (a : Int) (c : Int) (a0 : 0 ≤ a) (a1 : a ≤ 10) (c0 : 0 ≤ c) (c1 : c ≤ 10) (hac : ¬ a = c) : Mu l yX10_copies cX10_copies 4 none 0 0 0 E [(b, 5)] [.ref b, .int (zI a), .int (zI c)] (fun H => PR E b (modelW E b mo) H) (fun rv H => rv = none ∧ PR E b (modelW E b (updC mo 1 (cpG (mo 1) a c))) H) := by
  refine Mu.start (own := RX10) rfl (by decide +kernel) (Nat.le_of_ble_eq_true rfl) ?_
  intro p e s m below meth cd args Q hQ X hr hlk hnm hM hPr
  have h_mo := hPr
  refine v_iconst X dX10_copies_0 1 rfl ?_
  refine v_istore_n X dX10_copies_1 2 rfl rfl (by decide) (L' := [(3, .int (zI 0)), (0, .ref b), (1, .int (zI a)), (2, .int (zI c))]) rfl ?_
  refine V_L (L' := [(3, .int (zI 0)), (0, .ref b), (1, .int (zI a)), (2, .int (zI c))]) (LC rfl (LC rfl (LC rfl (LC rfl rfl)))) ?_
  refine up_loop 492 (P := fun (i : Nat) => ∀ (H : Heap) (lo : List Loc), MS E [(b, 5)] s H lo → PR E b (modelW E b (updC mo 1 (cpA (mo 1) a c i))) H → V p l e (rmL 0 0 0) s m args below meth cd Q 4 H lo 0 0 2 [(3, .int (zI (i : Int))), (0, .ref b), (1, .int (zI a)), (2, .int (zI c))] []) (fun i hi_i ih_i H1 lo1 hM h_mo => ?_) _ _ hM (PR.to h_mo (by rw [cpA_0]; rfl))
  refine v_iload_n X dX10_copies_2 3 rfl 0 rfl ?_
  refine v_sipush X dX10_copies_3 6 rfl rfl ?_
  refine v_icmp_ge X (by omega) (by omega) dX10_copies_6 9 39 rfl (by decide) (fun c_2 => ?_) (fun c_2 => ?_)
  · skip
    subst hQ; exact m_vret X hr hlk hM dX10_copies_39 rfl ⟨rfl, (PR.to h_mo (by rw [show i = 492 by omega]; rfl))⟩
  · skip
    refine v_aload_n X dX10_copies_9 10 rfl 1 rfl ?_
    refine v_getf X hM.C h_mo.1 inX10 0 rfl rfl 1 (by decide) kf_X10_9 (fun _ h => h) rfl dX10_copies_10 13 rfl ?_
    refine v_sipush X dX10_copies_13 16 rfl rfl ?_
    refine v_iload_n X dX10_copies_16 17 rfl 3 rfl ?_
    refine v_imul X dX10_copies_17 18 rfl ?_
    refine v_iload_n X dX10_copies_18 19 rfl 0 rfl ?_
    refine v_iadd X dX10_copies_19 20 rfl ?_
    refine v_aload_n X dX10_copies_20 21 rfl 1 rfl ?_
    refine v_getf X hM.C h_mo.1 inX10 0 rfl rfl 1 (by decide) kf_X10_9 (fun _ h => h) rfl dX10_copies_21 24 rfl ?_
    refine v_sipush X dX10_copies_24 27 rfl rfl ?_
    refine v_iload_n X dX10_copies_27 28 rfl 2 rfl ?_
    refine v_imul X dX10_copies_28 29 rfl ?_
    refine v_iload_n X dX10_copies_29 30 rfl 0 rfl ?_
    refine v_iadd X dX10_copies_30 31 rfl ?_
    refine v_iald X hM.C h_mo.1 1 rfl (by omega) (by omega) (by omega) dX10_copies_31 32 rfl ?_
    show V p l e (rmL 0 0 0) s m args below meth cd Q 4 H1 lo1 0 0 32 [(3, .int (zI (i : Int))), (0, .ref b), (1, .int (zI a)), (2, .int (zI c))] [.int (zI ((cpA (mo 1) a c i) (492 * a + (i : Int)))), .int (zI (492 * c + (i : Int))), .ref (b + 1)]
    refine v_iast X hM h_mo 1 rfl (by omega) (by omega) (by omega) (Or.inl (fsH (by omega) (by omega))) dX10_copies_32 33 rfl (ws' := modelW E b (updC mo 1 (updZ (cpA (mo 1) a c i) (492 * c + (i : Int)) ((cpA (mo 1) a c i) (492 * a + (i : Int)))))) rfl (fun H3 lo3 hzz hM hF h_mo => ?_)
    clear hzz
    refine v_iinc X dX10_copies_33 36 rfl 0 rfl (by decide) (L' := [(3, .int (zI ((i : Int) + 1))), (0, .ref b), (1, .int (zI a)), (2, .int (zI c))]) rfl ?_
    refine v_goto X dX10_copies_36 2 (by decide) ?_
    exact V_L (L' := [(3, .int (zI ((i + 1 : Nat) : Int))), (0, .ref b), (1, .int (zI a)), (2, .int (zI c))]) (LC (vz (by omega)) (LC rfl (LC rfl (LC rfl rfl)))) (ih_i (by omega) _ _ hM (PR.to h_mo (by rw [cpA_s (by omega) hac])))
set_option maxHeartbeats 4000000 in
set_option maxRecDepth 20000 in
theorem c_X10_begins (l : Launch) (E : Nat → Nat → Nat) (b : Nat) (mo : Nat → Int → Int) : Mu l yX10_begins cX10_begins 1 none 1 0 0 E [(b, 5)] [.ref b] (fun H => PR E b (modelW E b mo) H) (fun rv H => rv = none ∧ PR E b (modelW E b (updC mo 1 (cpG (mo 1) 0 10))) H) := by
  refine Mu.start (own := RX10) rfl (by decide +kernel) (Nat.le_of_ble_eq_true rfl) ?_
  intro p e s m below meth cd args Q hQ X hr hlk hnm hM hPr
  have h_mo := hPr
  refine v_aload_n X dX10_begins_0 1 rfl 0 rfl ?_
  refine v_iconst X dX10_begins_1 2 rfl ?_
  refine v_bipush X dX10_begins_2 4 rfl rfl ?_
  refine v_muV X hM (h_mo.1) (c_X10_copies l E b mo 0 10 (by omega) (by omega) (by omega) (by omega) (by omega)) kvX10_copies kiX10_copies kl_X10_33 (q0 := 0) rfl rfl (As := [.int (zI 0), .int (zI 10)]) rfl rfl rfl dX10_begins_4 7 rfl (k' := 0) (n' := 0) rfl rfl (fsI (fun q q1 q2 => (Or.inl (fsH (by omega) (by omega))))) h_mo (fun rv H1 lo1 hM hF hpo => ?_)
  obtain ⟨rfl, hw_0⟩ := hpo
  have h_mo : PR E b (modelW E b (updC mo 1 (cpG ((mo 1)) 0 10))) H1 := hw_0
  show V p l e (rmL 1 0 0) s m args below meth cd Q 1 H1 lo1 0 0 7 [(0, .ref b)] []
  subst hQ; exact m_vret X hr hlk hM dX10_begins_7 rfl ⟨rfl, h_mo⟩
set_option maxHeartbeats 4000000 in
set_option maxRecDepth 20000 in
theorem c_X10_ends_0 (l : Launch) (E : Nat → Nat → Nat) (b : Nat) (mo : Nat → Int → Int) (n1 : Int) (n2 : Int) (n3 : Int) (n4 : Int) (sz : Int) (hch : mo 0 2 = sz) (s0 : 0 ≤ sz) (s1 : sz ≤ 8) : Mu l yX10_ends cX10_ends 7 (some .int) 1 0 0 E [(b, 5)] [.ref b, .int (zI 0), .int (zI n1), .int (zI n2), .int (zI n3), .int (zI n4)] (fun H => PR E b (modelW E b mo) H) (fun rv H => rv = some (.int (zI (mo 0 4))) ∧ PR E b (modelW E b (updC (updC mo 0 (updZ (updZ (mo 0) 0 0) 2 (min (sz + 1) 8))) 1 (endG (mo 1) sz))) H) := by
  refine Mu.start (own := RX10) rfl (by decide +kernel) (Nat.le_of_ble_eq_true rfl) ?_
  intro p e s m below meth cd args Q hQ X hr hlk hnm hM hPr
  have h_mo := hPr
  refine v_aload_n X dX10_ends_0 1 rfl 0 rfl ?_
  refine v_iload_n X dX10_ends_1 2 rfl 1 rfl ?_
  refine v_iconst X dX10_ends_2 3 rfl ?_
  refine v_icmp_ne X (by omega) (by omega) dX10_ends_3 6 10 rfl (by decide) (fun c_1 => ?_) (fun c_1 => ?_)
  · skip
    refine v_iload_n X dX10_ends_10 11 rfl 1 rfl ?_
    refine v_iconst X dX10_ends_11 12 rfl ?_
    refine v_icmp_ne X (by omega) (by omega) dX10_ends_12 15 19 rfl (by decide) (fun c_2 => ?_) (fun c_2 => ?_)
    · skip
      refine v_iload_n X dX10_ends_19 20 rfl 1 rfl ?_
      refine v_iconst X dX10_ends_20 21 rfl ?_
      refine v_icmp_ne X (by omega) (by omega) dX10_ends_21 24 29 rfl (by decide) (fun c_3 => ?_) (fun c_3 => ?_)
      · skip
        refine v_iload_n X dX10_ends_29 30 rfl 1 rfl ?_
        refine v_iconst X dX10_ends_30 31 rfl ?_
        refine v_icmp_ne X (by omega) (by omega) dX10_ends_31 34 39 rfl (by decide) (fun c_4 => ?_) (fun c_4 => ?_)
        · skip
          refine v_iconst X dX10_ends_39 40 rfl ?_
          refine v_putf X hM h_mo ftX10 0 rfl rfl 0 (by decide) kf_X10_30 (fun _ h => h) rfl rfl rfl (Nat.le_of_ble_eq_true rfl) (Or.inl (fsH (by omega) (by omega))) dX10_ends_40 43 rfl (ws' := modelW E b (updC mo 0 (updZ (mo 0) 0 0))) rfl (fun H5 lo5 hzz hM hF h_mo => ?_)
          clear hzz
          refine v_aload_n X dX10_ends_43 44 rfl 0 rfl ?_
          refine v_getf X hM.C h_mo.1 inX10 0 rfl rfl 0 (by decide) kf_X10_30 (fun _ h => h) rfl dX10_ends_44 47 rfl ?_
          show V p l e (rmL 1 0 0) s m args below meth cd Q 7 H5 lo5 0 0 47 [(0, .ref b), (1, .int (zI 0)), (2, .int (zI n1)), (3, .int (zI n2)), (4, .int (zI n3)), (5, .int (zI n4))] [.int (zI 0)]
          refine v_if_eq X (by omega) dX10_ends_47 50 59 rfl (by decide) (fun c_6 => ?_) (fun c_6 => ?_)
          · skip
            refine v_aload_n X dX10_ends_59 60 rfl 0 rfl ?_
            refine v_getf X hM.C h_mo.1 inX10 0 rfl rfl 2 (by decide) kf_X10_37 (fun _ h => h) rfl dX10_ends_60 63 rfl ?_
            show V p l e (rmL 1 0 0) s m args below meth cd Q 7 H5 lo5 0 0 63 [(0, .ref b), (1, .int (zI 0)), (2, .int (zI n1)), (3, .int (zI n2)), (4, .int (zI n3)), (5, .int (zI n4))] [.int (zI (mo 0 2))]
            refine v_bipush X dX10_ends_63 65 rfl rfl ?_
            refine v_icmp_ne X (by omega) (by omega) dX10_ends_65 68 104 rfl (by decide) (fun c_7 => ?_) (fun c_7 => ?_)
            · skip
              refine v_aload_n X dX10_ends_104 105 rfl 0 rfl ?_
              refine v_dup X dX10_ends_105 106 rfl rfl ?_
              refine v_getf X hM.C h_mo.1 inX10 0 rfl rfl 2 (by decide) kf_X10_37 (fun _ h => h) rfl dX10_ends_106 109 rfl ?_
              show V p l e (rmL 1 0 0) s m args below meth cd Q 7 H5 lo5 0 0 109 [(0, .ref b), (1, .int (zI 0)), (2, .int (zI n1)), (3, .int (zI n2)), (4, .int (zI n3)), (5, .int (zI n4))] [.int (zI (mo 0 2)), .ref b]
              refine v_iconst X dX10_ends_109 110 rfl ?_
              refine v_iadd X dX10_ends_110 111 rfl ?_
              refine v_putf X hM h_mo ftX10 0 rfl rfl 2 (by decide) kf_X10_37 (fun _ h => h) rfl rfl rfl (Nat.le_of_ble_eq_true rfl) (Or.inl (fsH (by omega) (by omega))) dX10_ends_111 114 rfl (ws' := modelW E b (updC mo 0 (updZ (updZ (mo 0) 0 0) 2 (mo 0 2 + 1)))) rfl (fun H8 lo8 hzz hM hF h_mo => ?_)
              clear hzz
              refine v_aload_n X dX10_ends_114 115 rfl 0 rfl ?_
              refine v_bipush X dX10_ends_115 117 rfl rfl ?_
              refine v_aload_n X dX10_ends_117 118 rfl 0 rfl ?_
              refine v_getf X hM.C h_mo.1 inX10 0 rfl rfl 2 (by decide) kf_X10_37 (fun _ h => h) rfl dX10_ends_118 121 rfl ?_
              show V p l e (rmL 1 0 0) s m args below meth cd Q 7 H8 lo8 0 0 121 [(0, .ref b), (1, .int (zI 0)), (2, .int (zI n1)), (3, .int (zI n2)), (4, .int (zI n3)), (5, .int (zI n4))] [.int (zI (mo 0 2 + 1)), .int (zI 10), .ref b]
              refine v_muV X hM (h_mo.1) (c_X10_copies l E b (updC mo 0 (updZ (updZ (mo 0) 0 0) 2 (mo 0 2 + 1))) 10 (mo 0 2 + 1) (by omega) (by omega) (by omega) (by omega) (by omega)) kvX10_copies kiX10_copies kl_X10_33 (q0 := 0) rfl rfl (As := [.int (zI 10), .int (zI (mo 0 2 + 1))]) rfl rfl rfl dX10_ends_121 124 rfl (k' := 0) (n' := 0) rfl rfl (fsI (fun q q1 q2 => (Or.inl (fsH (by omega) (by omega))))) h_mo (fun rv H9 lo9 hM hF hpo => ?_)
              obtain ⟨rfl, hw_0⟩ := hpo
              have h_mo : PR E b (modelW E b (updC (updC mo 0 (updZ (updZ (mo 0) 0 0) 2 (mo 0 2 + 1))) 1 (cpG ((mo 1)) 10 (mo 0 2 + 1)))) H9 := hw_0
              show V p l e (rmL 1 0 0) s m args below meth cd Q 7 H9 lo9 0 0 124 [(0, .ref b), (1, .int (zI 0)), (2, .int (zI n1)), (3, .int (zI n2)), (4, .int (zI n3)), (5, .int (zI n4))] []
              refine v_aload_n X dX10_ends_124 125 rfl 0 rfl ?_
              refine v_getf X hM.C h_mo.1 inX10 0 rfl rfl 4 (by decide) kf_X10_40 (fun _ h => h) rfl dX10_ends_125 128 rfl ?_
              show V p l e (rmL 1 0 0) s m args below meth cd Q 7 H9 lo9 0 0 128 [(0, .ref b), (1, .int (zI 0)), (2, .int (zI n1)), (3, .int (zI n2)), (4, .int (zI n3)), (5, .int (zI n4))] [.int (zI (mo 0 4))]
              subst hQ; exact m_iret X hr hlk hM dX10_ends_128 rfl ⟨rfl, (PR.to h_mo (by rw [show min (sz + 1) 8 = mo 0 2 + 1 by omega]; rw [show endG (mo 1) sz = cpG ((mo 1)) 10 (mo 0 2 + 1) by unfold endG; rw [if_neg (by omega)]; rw [show mo 0 2 = sz by omega]]))⟩
            · skip
              refine v_iconst X dX10_ends_68 69 rfl ?_
              refine v_istore X dX10_ends_69 71 rfl (by decide) (L' := [(6, .int (zI 1)), (0, .ref b), (1, .int (zI 0)), (2, .int (zI n1)), (3, .int (zI n2)), (4, .int (zI n3)), (5, .int (zI n4))]) rfl ?_
              refine V_L (L' := [(6, .int (zI (0 + 1))), (0, .ref b), (1, .int (zI 0)), (2, .int (zI n1)), (3, .int (zI n2)), (4, .int (zI n3)), (5, .int (zI n4))]) (LC (vz (by rfl)) (LC rfl (LC rfl (LC rfl (LC rfl (LC rfl (LC rfl rfl))))))) ?_
              refine up_loop 7 (P := fun (i : Nat) => ∀ (H : Heap) (lo : List Loc), MS E [(b, 5)] s H lo → PR E b (modelW E b (updC (updC mo 0 (updZ (mo 0) 0 0)) 1 (shF (mo 1) i))) H → V p l e (rmL 1 0 0) s m args below meth cd Q 7 H lo 0 0 71 [(6, .int (zI ((i : Int) + 1))), (0, .ref b), (1, .int (zI 0)), (2, .int (zI n1)), (3, .int (zI n2)), (4, .int (zI n3)), (5, .int (zI n4))] []) (fun i hi_i ih_i H10 lo10 hM h_mo => ?_) _ _ hM (PR.to h_mo (by rfl))
              refine v_iload X dX10_ends_71 73 rfl 0 rfl ?_
              refine v_bipush X dX10_ends_73 75 rfl rfl ?_
              refine v_icmp_ge X (by omega) (by omega) dX10_ends_75 78 94 rfl (by decide) (fun c_11 => ?_) (fun c_11 => ?_)
              · skip
                refine v_aload_n X dX10_ends_94 95 rfl 1 rfl ?_
                refine v_dup X dX10_ends_95 96 rfl rfl ?_
                refine v_getf X hM.C h_mo.1 inX10 0 rfl rfl 2 (by decide) kf_X10_37 (fun _ h => h) rfl dX10_ends_96 99 rfl ?_
                show V p l e (rmL 1 0 0) s m args below meth cd Q 7 H10 lo10 0 0 99 [(6, .int (zI ((i : Int) + 1))), (0, .ref b), (1, .int (zI 0)), (2, .int (zI n1)), (3, .int (zI n2)), (4, .int (zI n3)), (5, .int (zI n4))] [.int (zI (mo 0 2)), .ref b]
                refine v_iconst X dX10_ends_99 100 rfl ?_
                refine v_isub X dX10_ends_100 101 rfl ?_
                refine v_putf X hM h_mo ftX10 0 rfl rfl 2 (by decide) kf_X10_37 (fun _ h => h) rfl rfl rfl (Nat.le_of_ble_eq_true rfl) (Or.inl (fsH (by omega) (by omega))) dX10_ends_101 104 rfl (ws' := modelW E b (updC (updC mo 0 (updZ (updZ (mo 0) 0 0) 2 (mo 0 2 - 1))) 1 (shF (mo 1) i))) rfl (fun H12 lo12 hzz hM hF h_mo => ?_)
                clear hzz
                refine v_aload_n X dX10_ends_104 105 rfl 1 rfl ?_
                refine v_dup X dX10_ends_105 106 rfl rfl ?_
                refine v_getf X hM.C h_mo.1 inX10 0 rfl rfl 2 (by decide) kf_X10_37 (fun _ h => h) rfl dX10_ends_106 109 rfl ?_
                show V p l e (rmL 1 0 0) s m args below meth cd Q 7 H12 lo12 0 0 109 [(6, .int (zI ((i : Int) + 1))), (0, .ref b), (1, .int (zI 0)), (2, .int (zI n1)), (3, .int (zI n2)), (4, .int (zI n3)), (5, .int (zI n4))] [.int (zI (mo 0 2 - 1)), .ref b]
                refine v_iconst X dX10_ends_109 110 rfl ?_
                refine v_iadd X dX10_ends_110 111 rfl ?_
                refine v_putf X hM h_mo ftX10 0 rfl rfl 2 (by decide) kf_X10_37 (fun _ h => h) rfl rfl rfl (Nat.le_of_ble_eq_true rfl) (Or.inl (fsH (by omega) (by omega))) dX10_ends_111 114 rfl (ws' := modelW E b (updC (updC mo 0 (updZ (updZ (mo 0) 0 0) 2 (mo 0 2 - 1 + 1))) 1 (shF (mo 1) i))) rfl (fun H13 lo13 hzz hM hF h_mo => ?_)
                clear hzz
                refine v_aload_n X dX10_ends_114 115 rfl 1 rfl ?_
                refine v_bipush X dX10_ends_115 117 rfl rfl ?_
                refine v_aload_n X dX10_ends_117 118 rfl 1 rfl ?_
                refine v_getf X hM.C h_mo.1 inX10 0 rfl rfl 2 (by decide) kf_X10_37 (fun _ h => h) rfl dX10_ends_118 121 rfl ?_
                show V p l e (rmL 1 0 0) s m args below meth cd Q 7 H13 lo13 0 0 121 [(6, .int (zI ((i : Int) + 1))), (0, .ref b), (1, .int (zI 0)), (2, .int (zI n1)), (3, .int (zI n2)), (4, .int (zI n3)), (5, .int (zI n4))] [.int (zI (mo 0 2 - 1 + 1)), .int (zI 10), .ref b]
                refine v_muV X hM (h_mo.1) (c_X10_copies l E b (updC (updC mo 0 (updZ (updZ (mo 0) 0 0) 2 (mo 0 2 - 1 + 1))) 1 (shF (mo 1) i)) 10 (mo 0 2 - 1 + 1) (by omega) (by omega) (by omega) (by omega) (by omega)) kvX10_copies kiX10_copies kl_X10_33 (q0 := 0) rfl rfl (As := [.int (zI 10), .int (zI (mo 0 2 - 1 + 1))]) rfl rfl rfl dX10_ends_121 124 rfl (k' := 0) (n' := 0) rfl rfl (fsI (fun q q1 q2 => (Or.inl (fsH (by omega) (by omega))))) h_mo (fun rv H14 lo14 hM hF hpo => ?_)
                obtain ⟨rfl, hw_0⟩ := hpo
                have h_mo : PR E b (modelW E b (updC (updC mo 0 (updZ (updZ (mo 0) 0 0) 2 (mo 0 2 - 1 + 1))) 1 (cpG ((shF (mo 1) i)) 10 (mo 0 2 - 1 + 1)))) H14 := hw_0
                show V p l e (rmL 1 0 0) s m args below meth cd Q 7 H14 lo14 0 0 124 [(6, .int (zI ((i : Int) + 1))), (0, .ref b), (1, .int (zI 0)), (2, .int (zI n1)), (3, .int (zI n2)), (4, .int (zI n3)), (5, .int (zI n4))] []
                refine v_aload_n X dX10_ends_124 125 rfl 1 rfl ?_
                refine v_getf X hM.C h_mo.1 inX10 0 rfl rfl 4 (by decide) kf_X10_40 (fun _ h => h) rfl dX10_ends_125 128 rfl ?_
                show V p l e (rmL 1 0 0) s m args below meth cd Q 7 H14 lo14 0 0 128 [(6, .int (zI ((i : Int) + 1))), (0, .ref b), (1, .int (zI 0)), (2, .int (zI n1)), (3, .int (zI n2)), (4, .int (zI n3)), (5, .int (zI n4))] [.int (zI (mo 0 4))]
                subst hQ; exact m_iret X hr hlk hM dX10_ends_128 rfl ⟨rfl, (PR.to h_mo (by rw [show min (sz + 1) 8 = mo 0 2 - 1 + 1 by omega]; rw [show endG (mo 1) sz = cpG ((shF (mo 1) i)) 10 (mo 0 2 - 1 + 1) by unfold endG; rw [if_pos (by omega)]; rw [show i = 7 by omega, show (mo 0 2 - 1 + 1) = 8 by omega]]))⟩
              · skip
                refine v_aload_n X dX10_ends_78 79 rfl 1 rfl ?_
                refine v_iload X dX10_ends_79 81 rfl 0 rfl ?_
                refine v_iconst X dX10_ends_81 82 rfl ?_
                refine v_iadd X dX10_ends_82 83 rfl ?_
                refine v_iload X dX10_ends_83 85 rfl 0 rfl ?_
                refine v_muV X hM (h_mo.1) (c_X10_copies l E b (updC (updC mo 0 (updZ (mo 0) 0 0)) 1 (shF (mo 1) i)) ((i : Int) + 1 + 1) ((i : Int) + 1) (by omega) (by omega) (by omega) (by omega) (by omega)) kvX10_copies kiX10_copies kl_X10_33 (q0 := 0) rfl rfl (As := [.int (zI ((i : Int) + 1 + 1)), .int (zI ((i : Int) + 1))]) rfl rfl rfl dX10_ends_85 88 rfl (k' := 0) (n' := 0) rfl rfl (fsI (fun q q1 q2 => (Or.inl (fsH (by omega) (by omega))))) h_mo (fun rv H15 lo15 hM hF hpo => ?_)
                obtain ⟨rfl, hw_0⟩ := hpo
                have h_mo : PR E b (modelW E b (updC (updC mo 0 (updZ (mo 0) 0 0)) 1 (cpG ((shF (mo 1) i)) ((i : Int) + 1 + 1) ((i : Int) + 1)))) H15 := hw_0
                show V p l e (rmL 1 0 0) s m args below meth cd Q 7 H15 lo15 0 0 88 [(6, .int (zI ((i : Int) + 1))), (0, .ref b), (1, .int (zI 0)), (2, .int (zI n1)), (3, .int (zI n2)), (4, .int (zI n3)), (5, .int (zI n4))] []
                refine v_iinc X dX10_ends_88 91 rfl 0 rfl (by decide) (L' := [(6, .int (zI ((i : Int) + 1 + 1))), (0, .ref b), (1, .int (zI 0)), (2, .int (zI n1)), (3, .int (zI n2)), (4, .int (zI n3)), (5, .int (zI n4))]) rfl ?_
                refine v_goto X dX10_ends_91 71 (by decide) ?_
                exact V_L (L' := [(6, .int (zI (((i + 1 : Nat) : Int) + 1))), (0, .ref b), (1, .int (zI 0)), (2, .int (zI n1)), (3, .int (zI n2)), (4, .int (zI n3)), (5, .int (zI n4))]) (LC (vz (by omega)) (LC rfl (LC rfl (LC rfl (LC rfl (LC rfl (LC rfl rfl))))))) (ih_i (by omega) _ _ hM (PR.to h_mo (by rfl)))
          · skip
            exfalso; omega
        · skip
          exfalso; omega
      · skip
        exfalso; omega
    · skip
      exfalso; omega
  · skip
    exfalso; omega
set_option maxHeartbeats 4000000 in
set_option maxRecDepth 20000 in
theorem c_X10_ends_1 (l : Launch) (E : Nat → Nat → Nat) (b : Nat) (mo : Nat → Int → Int) (n1 : Int) (n2 : Int) (n3 : Int) (n4 : Int) (nz : ¬ n1 = 0) (gz : Rg n1) : Mu l yX10_ends cX10_ends 7 (some .int) 1 0 0 E [(b, 5)] [.ref b, .int (zI 1), .int (zI n1), .int (zI n2), .int (zI n3), .int (zI n4)] (fun H => PR E b (modelW E b mo) H) (fun rv H => rv = some (.int (zI 0)) ∧ PR E b (modelW E b (updC (updC mo 0 (updZ (mo 0) 0 n1)) 1 (cpG (mo 1) 10 0))) H) := by
  refine Mu.start (own := RX10) rfl (by decide +kernel) (Nat.le_of_ble_eq_true rfl) ?_
  intro p e s m below meth cd args Q hQ X hr hlk hnm hM hPr
  have h_mo := hPr
  refine v_aload_n X dX10_ends_0 1 rfl 0 rfl ?_
  refine v_iload_n X dX10_ends_1 2 rfl 1 rfl ?_
  refine v_iconst X dX10_ends_2 3 rfl ?_
  refine v_icmp_ne X (by omega) (by omega) dX10_ends_3 6 10 rfl (by decide) (fun c_1 => ?_) (fun c_1 => ?_)
  · skip
    exfalso; omega
  · skip
    refine v_iload_n X dX10_ends_6 7 rfl 2 rfl ?_
    refine v_goto X dX10_ends_7 40 (by decide) ?_
    refine v_putf X hM h_mo ftX10 0 rfl rfl 0 (by decide) kf_X10_30 (fun _ h => h) rfl rfl rfl (Nat.le_of_ble_eq_true rfl) (Or.inl (fsH (by omega) (by omega))) dX10_ends_40 43 rfl (ws' := modelW E b (updC mo 0 (updZ (mo 0) 0 n1))) rfl (fun H2 lo2 hzz hM hF h_mo => ?_)
    clear hzz
    refine v_aload_n X dX10_ends_43 44 rfl 0 rfl ?_
    refine v_getf X hM.C h_mo.1 inX10 0 rfl rfl 0 (by decide) kf_X10_30 (fun _ h => h) rfl dX10_ends_44 47 rfl ?_
    show V p l e (rmL 1 0 0) s m args below meth cd Q 7 H2 lo2 0 0 47 [(0, .ref b), (1, .int (zI 1)), (2, .int (zI n1)), (3, .int (zI n2)), (4, .int (zI n3)), (5, .int (zI n4))] [.int (zI n1)]
    refine v_if_eq X (by omega) dX10_ends_47 50 59 rfl (by decide) (fun c_3 => ?_) (fun c_3 => ?_)
    · skip
      exfalso; omega
    · skip
      refine v_aload_n X dX10_ends_50 51 rfl 0 rfl ?_
      refine v_bipush X dX10_ends_51 53 rfl rfl ?_
      refine v_iconst X dX10_ends_53 54 rfl ?_
      refine v_muV X hM (h_mo.1) (c_X10_copies l E b (updC mo 0 (updZ (mo 0) 0 n1)) 10 0 (by omega) (by omega) (by omega) (by omega) (by omega)) kvX10_copies kiX10_copies kl_X10_33 (q0 := 0) rfl rfl (As := [.int (zI 10), .int (zI 0)]) rfl rfl rfl dX10_ends_54 57 rfl (k' := 0) (n' := 0) rfl rfl (fsI (fun q q1 q2 => (Or.inl (fsH (by omega) (by omega))))) h_mo (fun rv H4 lo4 hM hF hpo => ?_)
      obtain ⟨rfl, hw_0⟩ := hpo
      have h_mo : PR E b (modelW E b (updC (updC mo 0 (updZ (mo 0) 0 n1)) 1 (cpG ((mo 1)) 10 0))) H4 := hw_0
      show V p l e (rmL 1 0 0) s m args below meth cd Q 7 H4 lo4 0 0 57 [(0, .ref b), (1, .int (zI 1)), (2, .int (zI n1)), (3, .int (zI n2)), (4, .int (zI n3)), (5, .int (zI n4))] []
      refine v_iconst X dX10_ends_57 58 rfl ?_
      subst hQ; exact m_iret X hr hlk hM dX10_ends_58 rfl ⟨rfl, h_mo⟩
set_option maxHeartbeats 4000000 in
set_option maxRecDepth 20000 in
theorem c_X10_ends_2 (l : Launch) (E : Nat → Nat → Nat) (b : Nat) (mo : Nat → Int → Int) (n1 : Int) (n2 : Int) (n3 : Int) (n4 : Int) (nz : ¬ n2 = 0) (gz : Rg n2) : Mu l yX10_ends cX10_ends 7 (some .int) 1 0 0 E [(b, 5)] [.ref b, .int (zI 2), .int (zI n1), .int (zI n2), .int (zI n3), .int (zI n4)] (fun H => PR E b (modelW E b mo) H) (fun rv H => rv = some (.int (zI 0)) ∧ PR E b (modelW E b (updC (updC mo 0 (updZ (mo 0) 0 n2)) 1 (cpG (mo 1) 10 0))) H) := by
  refine Mu.start (own := RX10) rfl (by decide +kernel) (Nat.le_of_ble_eq_true rfl) ?_
  intro p e s m below meth cd args Q hQ X hr hlk hnm hM hPr
  have h_mo := hPr
  refine v_aload_n X dX10_ends_0 1 rfl 0 rfl ?_
  refine v_iload_n X dX10_ends_1 2 rfl 1 rfl ?_
  refine v_iconst X dX10_ends_2 3 rfl ?_
  refine v_icmp_ne X (by omega) (by omega) dX10_ends_3 6 10 rfl (by decide) (fun c_1 => ?_) (fun c_1 => ?_)
  · skip
    refine v_iload_n X dX10_ends_10 11 rfl 1 rfl ?_
    refine v_iconst X dX10_ends_11 12 rfl ?_
    refine v_icmp_ne X (by omega) (by omega) dX10_ends_12 15 19 rfl (by decide) (fun c_2 => ?_) (fun c_2 => ?_)
    · skip
      exfalso; omega
    · skip
      refine v_iload_n X dX10_ends_15 16 rfl 3 rfl ?_
      refine v_goto X dX10_ends_16 40 (by decide) ?_
      refine v_putf X hM h_mo ftX10 0 rfl rfl 0 (by decide) kf_X10_30 (fun _ h => h) rfl rfl rfl (Nat.le_of_ble_eq_true rfl) (Or.inl (fsH (by omega) (by omega))) dX10_ends_40 43 rfl (ws' := modelW E b (updC mo 0 (updZ (mo 0) 0 n2))) rfl (fun H3 lo3 hzz hM hF h_mo => ?_)
      clear hzz
      refine v_aload_n X dX10_ends_43 44 rfl 0 rfl ?_
      refine v_getf X hM.C h_mo.1 inX10 0 rfl rfl 0 (by decide) kf_X10_30 (fun _ h => h) rfl dX10_ends_44 47 rfl ?_
      show V p l e (rmL 1 0 0) s m args below meth cd Q 7 H3 lo3 0 0 47 [(0, .ref b), (1, .int (zI 2)), (2, .int (zI n1)), (3, .int (zI n2)), (4, .int (zI n3)), (5, .int (zI n4))] [.int (zI n2)]
      refine v_if_eq X (by omega) dX10_ends_47 50 59 rfl (by decide) (fun c_4 => ?_) (fun c_4 => ?_)
      · skip
        exfalso; omega
      · skip
        refine v_aload_n X dX10_ends_50 51 rfl 0 rfl ?_
        refine v_bipush X dX10_ends_51 53 rfl rfl ?_
        refine v_iconst X dX10_ends_53 54 rfl ?_
        refine v_muV X hM (h_mo.1) (c_X10_copies l E b (updC mo 0 (updZ (mo 0) 0 n2)) 10 0 (by omega) (by omega) (by omega) (by omega) (by omega)) kvX10_copies kiX10_copies kl_X10_33 (q0 := 0) rfl rfl (As := [.int (zI 10), .int (zI 0)]) rfl rfl rfl dX10_ends_54 57 rfl (k' := 0) (n' := 0) rfl rfl (fsI (fun q q1 q2 => (Or.inl (fsH (by omega) (by omega))))) h_mo (fun rv H5 lo5 hM hF hpo => ?_)
        obtain ⟨rfl, hw_0⟩ := hpo
        have h_mo : PR E b (modelW E b (updC (updC mo 0 (updZ (mo 0) 0 n2)) 1 (cpG ((mo 1)) 10 0))) H5 := hw_0
        show V p l e (rmL 1 0 0) s m args below meth cd Q 7 H5 lo5 0 0 57 [(0, .ref b), (1, .int (zI 2)), (2, .int (zI n1)), (3, .int (zI n2)), (4, .int (zI n3)), (5, .int (zI n4))] []
        refine v_iconst X dX10_ends_57 58 rfl ?_
        subst hQ; exact m_iret X hr hlk hM dX10_ends_58 rfl ⟨rfl, h_mo⟩
  · skip
    exfalso; omega
set_option maxHeartbeats 4000000 in
set_option maxRecDepth 20000 in
theorem c_X10_ends_3 (l : Launch) (E : Nat → Nat → Nat) (b : Nat) (mo : Nat → Int → Int) (n1 : Int) (n2 : Int) (n3 : Int) (n4 : Int) (nz : ¬ n3 = 0) (gz : Rg n3) : Mu l yX10_ends cX10_ends 7 (some .int) 1 0 0 E [(b, 5)] [.ref b, .int (zI 3), .int (zI n1), .int (zI n2), .int (zI n3), .int (zI n4)] (fun H => PR E b (modelW E b mo) H) (fun rv H => rv = some (.int (zI 0)) ∧ PR E b (modelW E b (updC (updC mo 0 (updZ (mo 0) 0 n3)) 1 (cpG (mo 1) 10 0))) H) := by
  refine Mu.start (own := RX10) rfl (by decide +kernel) (Nat.le_of_ble_eq_true rfl) ?_
  intro p e s m below meth cd args Q hQ X hr hlk hnm hM hPr
  have h_mo := hPr
  refine v_aload_n X dX10_ends_0 1 rfl 0 rfl ?_
  refine v_iload_n X dX10_ends_1 2 rfl 1 rfl ?_
  refine v_iconst X dX10_ends_2 3 rfl ?_
  refine v_icmp_ne X (by omega) (by omega) dX10_ends_3 6 10 rfl (by decide) (fun c_1 => ?_) (fun c_1 => ?_)
  · skip
    refine v_iload_n X dX10_ends_10 11 rfl 1 rfl ?_
    refine v_iconst X dX10_ends_11 12 rfl ?_
    refine v_icmp_ne X (by omega) (by omega) dX10_ends_12 15 19 rfl (by decide) (fun c_2 => ?_) (fun c_2 => ?_)
    · skip
      refine v_iload_n X dX10_ends_19 20 rfl 1 rfl ?_
      refine v_iconst X dX10_ends_20 21 rfl ?_
      refine v_icmp_ne X (by omega) (by omega) dX10_ends_21 24 29 rfl (by decide) (fun c_3 => ?_) (fun c_3 => ?_)
      · skip
        exfalso; omega
      · skip
        refine v_iload X dX10_ends_24 26 rfl 4 rfl ?_
        refine v_goto X dX10_ends_26 40 (by decide) ?_
        refine v_putf X hM h_mo ftX10 0 rfl rfl 0 (by decide) kf_X10_30 (fun _ h => h) rfl rfl rfl (Nat.le_of_ble_eq_true rfl) (Or.inl (fsH (by omega) (by omega))) dX10_ends_40 43 rfl (ws' := modelW E b (updC mo 0 (updZ (mo 0) 0 n3))) rfl (fun H4 lo4 hzz hM hF h_mo => ?_)
        clear hzz
        refine v_aload_n X dX10_ends_43 44 rfl 0 rfl ?_
        refine v_getf X hM.C h_mo.1 inX10 0 rfl rfl 0 (by decide) kf_X10_30 (fun _ h => h) rfl dX10_ends_44 47 rfl ?_
        show V p l e (rmL 1 0 0) s m args below meth cd Q 7 H4 lo4 0 0 47 [(0, .ref b), (1, .int (zI 3)), (2, .int (zI n1)), (3, .int (zI n2)), (4, .int (zI n3)), (5, .int (zI n4))] [.int (zI n3)]
        refine v_if_eq X (by omega) dX10_ends_47 50 59 rfl (by decide) (fun c_5 => ?_) (fun c_5 => ?_)
        · skip
          exfalso; omega
        · skip
          refine v_aload_n X dX10_ends_50 51 rfl 0 rfl ?_
          refine v_bipush X dX10_ends_51 53 rfl rfl ?_
          refine v_iconst X dX10_ends_53 54 rfl ?_
          refine v_muV X hM (h_mo.1) (c_X10_copies l E b (updC mo 0 (updZ (mo 0) 0 n3)) 10 0 (by omega) (by omega) (by omega) (by omega) (by omega)) kvX10_copies kiX10_copies kl_X10_33 (q0 := 0) rfl rfl (As := [.int (zI 10), .int (zI 0)]) rfl rfl rfl dX10_ends_54 57 rfl (k' := 0) (n' := 0) rfl rfl (fsI (fun q q1 q2 => (Or.inl (fsH (by omega) (by omega))))) h_mo (fun rv H6 lo6 hM hF hpo => ?_)
          obtain ⟨rfl, hw_0⟩ := hpo
          have h_mo : PR E b (modelW E b (updC (updC mo 0 (updZ (mo 0) 0 n3)) 1 (cpG ((mo 1)) 10 0))) H6 := hw_0
          show V p l e (rmL 1 0 0) s m args below meth cd Q 7 H6 lo6 0 0 57 [(0, .ref b), (1, .int (zI 3)), (2, .int (zI n1)), (3, .int (zI n2)), (4, .int (zI n3)), (5, .int (zI n4))] []
          refine v_iconst X dX10_ends_57 58 rfl ?_
          subst hQ; exact m_iret X hr hlk hM dX10_ends_58 rfl ⟨rfl, h_mo⟩
    · skip
      exfalso; omega
  · skip
    exfalso; omega
set_option maxHeartbeats 4000000 in
set_option maxRecDepth 20000 in
theorem c_X10_ends_4 (l : Launch) (E : Nat → Nat → Nat) (b : Nat) (mo : Nat → Int → Int) (n1 : Int) (n2 : Int) (n3 : Int) (n4 : Int) (nz : ¬ n4 = 0) (gz : Rg n4) : Mu l yX10_ends cX10_ends 7 (some .int) 1 0 0 E [(b, 5)] [.ref b, .int (zI 4), .int (zI n1), .int (zI n2), .int (zI n3), .int (zI n4)] (fun H => PR E b (modelW E b mo) H) (fun rv H => rv = some (.int (zI 0)) ∧ PR E b (modelW E b (updC (updC mo 0 (updZ (mo 0) 0 n4)) 1 (cpG (mo 1) 10 0))) H) := by
  refine Mu.start (own := RX10) rfl (by decide +kernel) (Nat.le_of_ble_eq_true rfl) ?_
  intro p e s m below meth cd args Q hQ X hr hlk hnm hM hPr
  have h_mo := hPr
  refine v_aload_n X dX10_ends_0 1 rfl 0 rfl ?_
  refine v_iload_n X dX10_ends_1 2 rfl 1 rfl ?_
  refine v_iconst X dX10_ends_2 3 rfl ?_
  refine v_icmp_ne X (by omega) (by omega) dX10_ends_3 6 10 rfl (by decide) (fun c_1 => ?_) (fun c_1 => ?_)
  · skip
    refine v_iload_n X dX10_ends_10 11 rfl 1 rfl ?_
    refine v_iconst X dX10_ends_11 12 rfl ?_
    refine v_icmp_ne X (by omega) (by omega) dX10_ends_12 15 19 rfl (by decide) (fun c_2 => ?_) (fun c_2 => ?_)
    · skip
      refine v_iload_n X dX10_ends_19 20 rfl 1 rfl ?_
      refine v_iconst X dX10_ends_20 21 rfl ?_
      refine v_icmp_ne X (by omega) (by omega) dX10_ends_21 24 29 rfl (by decide) (fun c_3 => ?_) (fun c_3 => ?_)
      · skip
        refine v_iload_n X dX10_ends_29 30 rfl 1 rfl ?_
        refine v_iconst X dX10_ends_30 31 rfl ?_
        refine v_icmp_ne X (by omega) (by omega) dX10_ends_31 34 39 rfl (by decide) (fun c_4 => ?_) (fun c_4 => ?_)
        · skip
          exfalso; omega
        · skip
          refine v_iload X dX10_ends_34 36 rfl 5 rfl ?_
          refine v_goto X dX10_ends_36 40 (by decide) ?_
          refine v_putf X hM h_mo ftX10 0 rfl rfl 0 (by decide) kf_X10_30 (fun _ h => h) rfl rfl rfl (Nat.le_of_ble_eq_true rfl) (Or.inl (fsH (by omega) (by omega))) dX10_ends_40 43 rfl (ws' := modelW E b (updC mo 0 (updZ (mo 0) 0 n4))) rfl (fun H5 lo5 hzz hM hF h_mo => ?_)
          clear hzz
          refine v_aload_n X dX10_ends_43 44 rfl 0 rfl ?_
          refine v_getf X hM.C h_mo.1 inX10 0 rfl rfl 0 (by decide) kf_X10_30 (fun _ h => h) rfl dX10_ends_44 47 rfl ?_
          show V p l e (rmL 1 0 0) s m args below meth cd Q 7 H5 lo5 0 0 47 [(0, .ref b), (1, .int (zI 4)), (2, .int (zI n1)), (3, .int (zI n2)), (4, .int (zI n3)), (5, .int (zI n4))] [.int (zI n4)]
          refine v_if_eq X (by omega) dX10_ends_47 50 59 rfl (by decide) (fun c_6 => ?_) (fun c_6 => ?_)
          · skip
            exfalso; omega
          · skip
            refine v_aload_n X dX10_ends_50 51 rfl 0 rfl ?_
            refine v_bipush X dX10_ends_51 53 rfl rfl ?_
            refine v_iconst X dX10_ends_53 54 rfl ?_
            refine v_muV X hM (h_mo.1) (c_X10_copies l E b (updC mo 0 (updZ (mo 0) 0 n4)) 10 0 (by omega) (by omega) (by omega) (by omega) (by omega)) kvX10_copies kiX10_copies kl_X10_33 (q0 := 0) rfl rfl (As := [.int (zI 10), .int (zI 0)]) rfl rfl rfl dX10_ends_54 57 rfl (k' := 0) (n' := 0) rfl rfl (fsI (fun q q1 q2 => (Or.inl (fsH (by omega) (by omega))))) h_mo (fun rv H7 lo7 hM hF hpo => ?_)
            obtain ⟨rfl, hw_0⟩ := hpo
            have h_mo : PR E b (modelW E b (updC (updC mo 0 (updZ (mo 0) 0 n4)) 1 (cpG ((mo 1)) 10 0))) H7 := hw_0
            show V p l e (rmL 1 0 0) s m args below meth cd Q 7 H7 lo7 0 0 57 [(0, .ref b), (1, .int (zI 4)), (2, .int (zI n1)), (3, .int (zI n2)), (4, .int (zI n3)), (5, .int (zI n4))] []
            refine v_iconst X dX10_ends_57 58 rfl ?_
            subst hQ; exact m_iret X hr hlk hM dX10_ends_58 rfl ⟨rfl, h_mo⟩
      · skip
        exfalso; omega
    · skip
      exfalso; omega
  · skip
    exfalso; omega
set_option maxHeartbeats 4000000 in
set_option maxRecDepth 20000 in
theorem c_X10_set (l : Launch) (E : Nat → Nat → Nat) (b : Nat) (mo : Nat → Int → Int) (k : Int) (w : Int) (v : Int) (k0 : 0 ≤ k) (k1 : k < 16) (q0 : 0 ≤ w) (q1 : w < 30) : Mu l yX10_set cX10_set 4 none 0 0 0 E [(b, 5)] [.ref b, .int (zI k), .int (zI w), .int (zI v)] (fun H => PR E b (modelW E b mo) H) (fun rv H => rv = none ∧ PR E b (modelW E b (updC mo 1 (updZ (mo 1) (12 + 30 * k + w) v))) H) := by
  refine Mu.start (own := RX10) rfl (by decide +kernel) (Nat.le_of_ble_eq_true rfl) ?_
  intro p e s m below meth cd args Q hQ X hr hlk hnm hM hPr
  have h_mo := hPr
  refine v_aload_n X dX10_set_0 1 rfl 0 rfl ?_
  refine v_getf X hM.C h_mo.1 inX10 0 rfl rfl 1 (by decide) kf_X10_9 (fun _ h => h) rfl dX10_set_1 4 rfl ?_
  refine v_bipush X dX10_set_4 6 rfl rfl ?_
  refine v_bipush X dX10_set_6 8 rfl rfl ?_
  refine v_iload_n X dX10_set_8 9 rfl 1 rfl ?_
  refine v_imul X dX10_set_9 10 rfl ?_
  refine v_iadd X dX10_set_10 11 rfl ?_
  refine v_iload_n X dX10_set_11 12 rfl 2 rfl ?_
  refine v_iadd X dX10_set_12 13 rfl ?_
  refine v_iload_n X dX10_set_13 14 rfl 3 rfl ?_
  refine v_iast X hM h_mo 1 rfl (by omega) (by omega) (by omega) (Or.inl (fsH (by omega) (by omega))) dX10_set_14 15 rfl (ws' := modelW E b (updC mo 1 (updZ (mo 1) (12 + 30 * k + w) v))) rfl (fun H1 lo1 hzz hM hF h_mo => ?_)
  clear hzz
  subst hQ; exact m_vret X hr hlk hM dX10_set_15 rfl ⟨rfl, h_mo⟩
set_option maxHeartbeats 4000000 in
set_option maxRecDepth 20000 in
theorem c_X10_craw (l : Launch) (E : Nat → Nat → Nat) (b : Nat) (mo : Nat → Int → Int) (k : Int) (w : Int) (k0 : 0 ≤ k) (k1 : k < 16) (q0 : 0 ≤ w) (q1 : w < 30) : Rd l yX10_c cX10_c 3 (some .int) 0 E [.ref b, .int (zI k), .int (zI w)] (modelW E b mo) (some (.int (zI (mo 1 (12 + 30 * k + w))))) := by
  refine Rd.start (own := RX10) rfl (by decide +kernel) (Nat.le_of_ble_eq_true rfl) ?_
  intro p e s m below meth cd args Q hQ X hr hlk hC hP
  have h_mo := hP
  refine v_aload_n X dX10_c_0 1 rfl 0 rfl ?_
  refine v_getf X hC h_mo inX10 0 rfl rfl 1 (by decide) kf_X10_9 (fun _ h => h) rfl dX10_c_1 4 rfl ?_
  refine v_bipush X dX10_c_4 6 rfl rfl ?_
  refine v_bipush X dX10_c_6 8 rfl rfl ?_
  refine v_iload_n X dX10_c_8 9 rfl 1 rfl ?_
  refine v_imul X dX10_c_9 10 rfl ?_
  refine v_iadd X dX10_c_10 11 rfl ?_
  refine v_iload_n X dX10_c_11 12 rfl 2 rfl ?_
  refine v_iadd X dX10_c_12 13 rfl ?_
  refine v_iald X hC h_mo 1 rfl (by omega) (by omega) (by omega) dX10_c_13 14 rfl ?_
  show V p l e (rmL 0 0 0) s m args below meth cd Q 3 s.heap [] 0 0 14 [(0, .ref b), (1, .int (zI k)), (2, .int (zI w))] [.int (zI (mo 1 (12 + 30 * k + w)))]
  subst hQ; exact v_iret0 X hr hlk dX10_c_14 rfl
