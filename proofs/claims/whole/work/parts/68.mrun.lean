theorem flC_set0 (co : Nat → Int → Int) (a y z : Int) : flC co 0 a y z = 0 ∨ flC co 0 a y z = 2 ∨ flC co 0 a y z = 4 := by
  show fCh co a y = 0 ∨ fCh co a y = 2 ∨ fCh co a y = 4
  unfold fCh
  repeat' split
  all_goals omega
theorem flC_set1 (co : Nat → Int → Int) (a y z : Int) : flC co 1 a y z = 0 ∨ flC co 1 a y z = 2 ∨ flC co 1 a y z = 4 := by
  show fWi co a = 0 ∨ fWi co a = 2 ∨ fWi co a = 4
  unfold fWi
  repeat' split
  all_goals omega
theorem flC_set2 (co : Nat → Int → Int) (a y z : Int) : flC co 2 a y z = 0 ∨ flC co 2 a y z = 1 ∨ flC co 2 a y z = 2 ∨ flC co 2 a y z = 4 := by
  show fTe co a y z = 0 ∨ fTe co a y z = 1 ∨ fTe co a y z = 2 ∨ fTe co a y z = 4
  unfold fTe
  repeat' split
  all_goals omega
theorem flC_set3 (co : Nat → Int → Int) (a y z : Int) : flC co 3 a y z = 0 ∨ flC co 3 a y z = 1 ∨ flC co 3 a y z = 3 ∨ flC co 3 a y z = 4 := by
  show fQu co a y = 0 ∨ fQu co a y = 1 ∨ fQu co a y = 3 ∨ fQu co a y = 4
  unfold fQu
  repeat' split
  all_goals omega
theorem flC_set4 (co : Nat → Int → Int) (a y z : Int) : flC co 4 a y z = 0 ∨ flC co 4 a y z = 1 ∨ flC co 4 a y z = 4 := by
  show fDe co a = 0 ∨ fDe co a = 1 ∨ fDe co a = 4
  unfold fDe
  repeat' split
  all_goals omega
theorem flC_set5 (co : Nat → Int → Int) (a y z : Int) : flC co 5 a y z = 0 ∨ flC co 5 a y z = 1 ∨ flC co 5 a y z = 4 := by
  show fAf co a = 0 ∨ fAf co a = 1 ∨ fAf co a = 4
  unfold fAf
  repeat' split
  all_goals omega
theorem flC_set6 (co : Nat → Int → Int) (a y z : Int) : flC co 6 a y z = 0 ∨ flC co 6 a y z = 1 ∨ flC co 6 a y z = 4 := by
  show fAf co a = 0 ∨ fAf co a = 1 ∨ fAf co a = 4
  unfold fAf
  repeat' split
  all_goals omega
theorem bz_01i {x : Int} (h : 0 ≤ x ∧ x ≤ 1) : bz (¬ x = 0) = x := by
  unfold bz
  split <;> omega
theorem exF_ok {pr : Nat → Int → Int} {m : Nat} {i : Int} {co : Nat → Int → Int} {R : Nat × Int × (Nat → Int → Int)} (h : exF pr (m + 1) i co = R) (hx : R.1 = 0) : flC co (pr 1 i) (pr 2 i) (pr 3 i) (pr 5 i) = 0 := by
  refine Classical.byContradiction fun q => ?_
  rw [exF_2 q] at h
  rw [← h] at hx
  exact q hx
theorem c_X10_does_ok (l : Launch) (E : Nat → Nat → Nat) (b : Nat) (mo : Nat → Int → Int) (co : Nat → Int → Int) (pq : Nat → Int → Int) (k : Int) (hO : OkC co) (hR : RelC co (mo 1)) (hI : TsI co) (hSt : StI co) (hC : CmR pq (mo 4) k) (k0 : 0 ≤ k) (k1 : k < 61) (hpr1 : ∀ j : Int, 0 ≤ pq 1 j ∧ pq 1 j ≤ 6) (hpr : ∀ (r : Nat) (j : Int), 0 ≤ pq r j ∧ pq r j ≤ 99) (hpf : ∀ j : Int, 0 ≤ pq 4 j ∧ pq 4 j ≤ 1) (hf : flC co (pq 1 k) (pq 2 k) (pq 3 k) (pq 5 k) = 0) : Mu l yX10_does cX10_does 5 (some .int) 5 0 0 E [(b, 5)] [.ref b, .int (zI (5 * k))] (fun H => PR E b (modelW E b mo) H) (fun rv H => ∃ g1 : Int → Int, ∃ q4 : Int, rv = some (.int (zI 0)) ∧ RelC (opC co (pq 1 k) (pq 2 k) (pq 3 k) (bz (¬ pq 4 k = 0)) (pq 5 k)) g1 ∧ (∀ i : Int, 492 ≤ i → g1 i = mo 1 i) ∧ PR E b (modelW E b (updC (updC mo 0 (updZ (mo 0) 4 q4)) 1 g1)) H) := by
  rcases (show pq 1 k = 0 ∨ pq 1 k = 1 ∨ pq 1 k = 2 ∨ pq 1 k = 3 ∨ pq 1 k = 4 ∨ pq 1 k = 5 ∨ pq 1 k = 6 by have := hpr1 k; omega) with e | e | e | e | e | e | e
  · rw [e] at hf ⊢
    exact c_X10_does_ok_0 l E b mo co k (pq 2 k) (pq 3 k) (bz (¬ pq 4 k = 0)) (pq 5 k) hO hR hI hSt k0 k1 (by rw [hC.1, e]) hC.2.1 (by have := hpr 2 k; omega) (hC.2.2.1 (by omega)) (by have := hpr 3 k; omega) hf
  · rw [e] at hf ⊢
    exact c_X10_does_ok_1 l E b mo co k (pq 2 k) (pq 3 k) (bz (¬ pq 4 k = 0)) (pq 5 k) hO hR hI k0 k1 (by rw [hC.1, e]) hC.2.1 (by have := hpr 2 k; omega) hf
  · rw [e] at hf ⊢
    exact c_X10_does_ok_2 l E b mo co k (pq 2 k) (pq 3 k) (bz (¬ pq 4 k = 0)) (pq 5 k) hO hR hI k0 k1 (by rw [hC.1, e]) hC.2.1 (by have := hpr 2 k; omega) (hC.2.2.1 (by omega)) (by have := hpr 3 k; omega) (by rw [bz_01i (hpf k)]; exact hC.2.2.2.1 (by omega)) (by rw [bz_01i (hpf k)]; exact hpf k) (hC.2.2.2.2 (by omega)) (by have := hpr 5 k; omega) hf
  · rw [e] at hf ⊢
    exact c_X10_does_ok_3 l E b mo co k (pq 2 k) (pq 3 k) (bz (¬ pq 4 k = 0)) (pq 5 k) hO hR hI k0 k1 (by rw [hC.1, e]) hC.2.1 (by have := hpr 2 k; omega) (hC.2.2.1 (by omega)) (by have := hpr 3 k; omega) (by rw [bz_01i (hpf k)]; exact hC.2.2.2.1 (by omega)) (by rw [bz_01i (hpf k)]; exact hpf k) hf
  · rw [e] at hf ⊢
    exact c_X10_does_ok_4 l E b mo co k (pq 2 k) (pq 3 k) (bz (¬ pq 4 k = 0)) (pq 5 k) hO hR hI k0 k1 (by rw [hC.1, e]) hC.2.1 (by have := hpr 2 k; omega) hf
  · rw [e] at hf ⊢
    exact c_X10_does_ok_5 l E b mo co k (pq 2 k) (pq 3 k) (bz (¬ pq 4 k = 0)) (pq 5 k) hO hR hI k0 k1 (by rw [hC.1, e]) hC.2.1 (by have := hpr 2 k; omega) hf
  · rw [e] at hf ⊢
    exact c_X10_does_ok_6 l E b mo co k (pq 2 k) (pq 3 k) (bz (¬ pq 4 k = 0)) (pq 5 k) hO hR hI k0 k1 (by rw [hC.1, e]) hC.2.1 (by have := hpr 2 k; omega) hf
theorem c_X10_does_f (l : Launch) (E : Nat → Nat → Nat) (b : Nat) (mo : Nat → Int → Int) (co : Nat → Int → Int) (pq : Nat → Int → Int) (k : Int) (hO : OkC co) (hR : RelC co (mo 1)) (hI : TsI co) (hSt : StI co) (hC : CmR pq (mo 4) k) (k0 : 0 ≤ k) (k1 : k < 61) (hpr1 : ∀ j : Int, 0 ≤ pq 1 j ∧ pq 1 j ≤ 6) (hpr : ∀ (r : Nat) (j : Int), 0 ≤ pq r j ∧ pq r j ≤ 99) (hpf : ∀ j : Int, 0 ≤ pq 4 j ∧ pq 4 j ≤ 1) (hf : ¬ flC co (pq 1 k) (pq 2 k) (pq 3 k) (pq 5 k) = 0) : Mu l yX10_does cX10_does 5 (some .int) 5 0 0 E [] [.ref b, .int (zI (5 * k))] (fun H => PR E b (modelW E b mo) H) (fun rv H => rv = some (.int (zI ((flC co (pq 1 k) (pq 2 k) (pq 3 k) (pq 5 k) : Nat) : Int)))) := by
  rcases (show pq 1 k = 0 ∨ pq 1 k = 1 ∨ pq 1 k = 2 ∨ pq 1 k = 3 ∨ pq 1 k = 4 ∨ pq 1 k = 5 ∨ pq 1 k = 6 by have := hpr1 k; omega) with e | e | e | e | e | e | e
  · rw [e] at hf ⊢
    rcases flC_set0 co (pq 2 k) (pq 3 k) (pq 5 k) with h | h | h
    · exact absurd h hf
    · rw [h]
      exact c_X10_does_f2_0 l E b mo co k (pq 2 k) (pq 3 k) (bz (¬ pq 4 k = 0)) (pq 5 k) hO hR hI k0 k1 (by rw [hC.1, e]) hC.2.1 (by have := hpr 2 k; omega) (hC.2.2.1 (by omega)) (by have := hpr 3 k; omega) h
    · rw [h]
      exact c_X10_does_f4_0 l E b mo co k (pq 2 k) (pq 3 k) (bz (¬ pq 4 k = 0)) (pq 5 k) hO hR hI k0 k1 (by rw [hC.1, e]) hC.2.1 (by have := hpr 2 k; omega) (hC.2.2.1 (by omega)) (by have := hpr 3 k; omega) h
  · rw [e] at hf ⊢
    rcases flC_set1 co (pq 2 k) (pq 3 k) (pq 5 k) with h | h | h
    · exact absurd h hf
    · rw [h]
      exact c_X10_does_f2_1 l E b mo co k (pq 2 k) (pq 3 k) (bz (¬ pq 4 k = 0)) (pq 5 k) hO hR hI k0 k1 (by rw [hC.1, e]) hC.2.1 (by have := hpr 2 k; omega) h
    · rw [h]
      exact c_X10_does_f4_1 l E b mo co k (pq 2 k) (pq 3 k) (bz (¬ pq 4 k = 0)) (pq 5 k) hO hR hI k0 k1 (by rw [hC.1, e]) hC.2.1 (by have := hpr 2 k; omega) h
  · rw [e] at hf ⊢
    rcases flC_set2 co (pq 2 k) (pq 3 k) (pq 5 k) with h | h | h | h
    · exact absurd h hf
    · rw [h]
      exact c_X10_does_f1_2 l E b mo co k (pq 2 k) (pq 3 k) (bz (¬ pq 4 k = 0)) (pq 5 k) hO hR hI k0 k1 (by rw [hC.1, e]) hC.2.1 (by have := hpr 2 k; omega) (hC.2.2.1 (by omega)) (by have := hpr 3 k; omega) (by rw [bz_01i (hpf k)]; exact hC.2.2.2.1 (by omega)) (by rw [bz_01i (hpf k)]; exact hpf k) (hC.2.2.2.2 (by omega)) (by have := hpr 5 k; omega) h
    · rw [h]
      exact c_X10_does_f2_2 l E b mo co k (pq 2 k) (pq 3 k) (bz (¬ pq 4 k = 0)) (pq 5 k) hO hR hI k0 k1 (by rw [hC.1, e]) hC.2.1 (by have := hpr 2 k; omega) (hC.2.2.1 (by omega)) (by have := hpr 3 k; omega) (by rw [bz_01i (hpf k)]; exact hC.2.2.2.1 (by omega)) (by rw [bz_01i (hpf k)]; exact hpf k) (hC.2.2.2.2 (by omega)) (by have := hpr 5 k; omega) h
    · rw [h]
      exact c_X10_does_f4_2 l E b mo co k (pq 2 k) (pq 3 k) (bz (¬ pq 4 k = 0)) (pq 5 k) hO hR hI k0 k1 (by rw [hC.1, e]) hC.2.1 (by have := hpr 2 k; omega) (hC.2.2.1 (by omega)) (by have := hpr 3 k; omega) (by rw [bz_01i (hpf k)]; exact hC.2.2.2.1 (by omega)) (by rw [bz_01i (hpf k)]; exact hpf k) (hC.2.2.2.2 (by omega)) (by have := hpr 5 k; omega) h
  · rw [e] at hf ⊢
    rcases flC_set3 co (pq 2 k) (pq 3 k) (pq 5 k) with h | h | h | h
    · exact absurd h hf
    · rw [h]
      exact c_X10_does_f1_3 l E b mo co k (pq 2 k) (pq 3 k) (bz (¬ pq 4 k = 0)) (pq 5 k) hO hR hI k0 k1 (by rw [hC.1, e]) hC.2.1 (by have := hpr 2 k; omega) (hC.2.2.1 (by omega)) (by have := hpr 3 k; omega) (by rw [bz_01i (hpf k)]; exact hC.2.2.2.1 (by omega)) (by rw [bz_01i (hpf k)]; exact hpf k) h
    · rw [h]
      exact c_X10_does_f3_3 l E b mo co k (pq 2 k) (pq 3 k) (bz (¬ pq 4 k = 0)) (pq 5 k) hO hR hI k0 k1 (by rw [hC.1, e]) hC.2.1 (by have := hpr 2 k; omega) (hC.2.2.1 (by omega)) (by have := hpr 3 k; omega) (by rw [bz_01i (hpf k)]; exact hC.2.2.2.1 (by omega)) (by rw [bz_01i (hpf k)]; exact hpf k) h
    · rw [h]
      exact c_X10_does_f4_3 l E b mo co k (pq 2 k) (pq 3 k) (bz (¬ pq 4 k = 0)) (pq 5 k) hO hR hI k0 k1 (by rw [hC.1, e]) hC.2.1 (by have := hpr 2 k; omega) (hC.2.2.1 (by omega)) (by have := hpr 3 k; omega) (by rw [bz_01i (hpf k)]; exact hC.2.2.2.1 (by omega)) (by rw [bz_01i (hpf k)]; exact hpf k) h
  · rw [e] at hf ⊢
    rcases flC_set4 co (pq 2 k) (pq 3 k) (pq 5 k) with h | h | h
    · exact absurd h hf
    · rw [h]
      exact c_X10_does_f1_4 l E b mo co k (pq 2 k) (pq 3 k) (bz (¬ pq 4 k = 0)) (pq 5 k) hO hR hI k0 k1 (by rw [hC.1, e]) hC.2.1 (by have := hpr 2 k; omega) h
    · rw [h]
      exact c_X10_does_f4_4 l E b mo co k (pq 2 k) (pq 3 k) (bz (¬ pq 4 k = 0)) (pq 5 k) hO hR hI k0 k1 (by rw [hC.1, e]) hC.2.1 (by have := hpr 2 k; omega) h
  · rw [e] at hf ⊢
    rcases flC_set5 co (pq 2 k) (pq 3 k) (pq 5 k) with h | h | h
    · exact absurd h hf
    · rw [h]
      exact c_X10_does_f1_5 l E b mo co k (pq 2 k) (pq 3 k) (bz (¬ pq 4 k = 0)) (pq 5 k) hO hR hI k0 k1 (by rw [hC.1, e]) hC.2.1 (by have := hpr 2 k; omega) h
    · rw [h]
      exact c_X10_does_f4_5 l E b mo co k (pq 2 k) (pq 3 k) (bz (¬ pq 4 k = 0)) (pq 5 k) hO hR hI k0 k1 (by rw [hC.1, e]) hC.2.1 (by have := hpr 2 k; omega) h
  · rw [e] at hf ⊢
    rcases flC_set6 co (pq 2 k) (pq 3 k) (pq 5 k) with h | h | h
    · exact absurd h hf
    · rw [h]
      exact c_X10_does_f1_6 l E b mo co k (pq 2 k) (pq 3 k) (bz (¬ pq 4 k = 0)) (pq 5 k) hO hR hI k0 k1 (by rw [hC.1, e]) hC.2.1 (by have := hpr 2 k; omega) h
    · rw [h]
      exact c_X10_does_f4_6 l E b mo co k (pq 2 k) (pq 3 k) (bz (¬ pq 4 k = 0)) (pq 5 k) hO hR hI k0 k1 (by rw [hC.1, e]) hC.2.1 (by have := hpr 2 k; omega) h
set_option maxHeartbeats 4000000 in
set_option maxRecDepth 20000 in
theorem c_X10_run (l : Launch) (E : Nat → Nat → Nat) (b : Nat) (mo : Nat → Int → Int) (co : Nat → Int → Int) (cv : Nat → Int → Int) (hc : Nat → Nat → Int → Int) (nx : Int) (sz : Int) (hs : Int) (f : Int → Int) (pr : Nat → Int → Int) (po : Int) (si : Int) (pq : Nat → Int → Int) (Pk : (Nat → Int → Int) → Prop) (hO : OkC co) (hRM : RelM co cv hc nx sz hs (mo 1)) (hch : mo 0 2 = sz) (n0 : 0 ≤ nx) (n1 : nx < 8) (s0 : 0 ≤ sz) (s1 : sz ≤ 8) (hcr : ∀ j : Int, 0 ≤ j → j < mo 0 8 → 0 ≤ mo 3 j ∧ mo 3 j < 128) (hn : 0 ≤ mo 0 8 ∧ mo 0 8 ≤ 60) (hfg : AgR f (mo 3) (mo 0 8)) (hPO : ∀ c : Nat → Int → Int, Pk c → OkC c ∧ TsI c ∧ StI c) (hPs : ∀ (c : Nat → Int → Int) (kd a y f z : Int), Pk c → (0 ≤ kd ∧ kd ≤ 6) → (0 ≤ f ∧ f ≤ 1) → flC c kd a y z = 0 → Pk (opC c kd a y f z)) (hP0 : Pk co) (hpr1 : ∀ j : Int, 0 ≤ pq 1 j ∧ pq 1 j ≤ 6) (hpr : ∀ (r : Nat) (j : Int), 0 ≤ pq r j ∧ pq r j ≤ 99) (hpf : ∀ j : Int, 0 ≤ pq 4 j ∧ pq 4 j ≤ 1) (si0 : 0 ≤ si) (si1 : si ≤ 8) (hpa : paF f (mo 0 8) 61 0 0 pr = (1, po, si, pq)) (hx : (exF pq si.toNat 0 co).1 = 0) : Mu l yX10_run cX10_run 3 (some .int) 6 0 0 E [(b, 5)] [.ref b] (fun H => PR E b (modelW E b mo) H) (fun rv H => ∃ g2 : Int → Int, ∃ q4 : Int, ∃ h9 : Int, ∃ e9 : Int, ∃ m9 : Int, ∃ c4 : Int → Int, rv = some (.int (zI si)) ∧ RelM ((exF pq si.toNat 0 co).2.2) (cv) (fun j => if j = nx.toNat then co else hc j) (if nx < 7 then nx + 1 else 0) (min (sz + 1) 8) (hs) g2 ∧ PR E b (modelW E b (updC (updC (updC mo 0 (updZ (updZ (updZ (updZ (updZ (updZ (updZ (mo 0) 0 0) 2 (min (sz + 1) 8)) 4 q4) 8 0) 9 h9) 10 e9) 15 m9)) 1 g2) 4 c4)) H) := by
  refine Mu.start (own := RX10) rfl (by decide +kernel) (Nat.le_of_ble_eq_true rfl) ?_
  intro p e s m below meth cd args Q hQ X hr hlk hnm hM hPr
  have h_mo := hPr
  have hb0 := hO.b0
  have hbw := hO.bw
  refine v_aload_n X dX10_run_0 1 rfl 0 rfl ?_
  refine v_muV X hM (h_mo.1) (c_X10_parse l E b mo f pr hcr hn hfg) kvX10_parse kiX10_parse kl_X10_203 (q0 := 0) rfl rfl (As := []) rfl rfl rfl dX10_run_1 4 rfl (k' := 0) (n' := 0) rfl rfl (fsI (fun q q1 q2 => (Or.inl (fsH (by omega) (by omega))))) h_mo (fun rv H1 lo1 hM hF hpo => ?_)
  obtain ⟨h9_2, e10__3, m15_4, c4_5, rfl, hp_f_6, hw_0⟩ := hpo
  have h_mo : PR E b (modelW E b (updC (updC mo 0 (updZ (updZ (updZ (mo 0) 9 h9_2) 10 e10__3) 15 m15_4)) 4 c4_5)) H1 := hw_0
  show V p l e (rmL 6 0 0) s m args below meth cd Q 3 H1 lo1 0 0 4 [(0, .ref b)] []
  rw [hpa] at hp_f_6
  have hP2 := hp_f_6.resolve_right (fun z => absurd (show (1 : Int) = 0 from z.1) (by decide))
  obtain ⟨-, e1, e2, e3⟩ := hP2
  dsimp only at e2 e3
  rw [e1, e2] at h_mo
  replace h_mo : PR E b (modelW E b (updC (updC mo 0 (updZ (updZ (updZ (mo 0) 9 h9_2) 10 (-1)) 15 si)) 4 c4_5)) H1 := h_mo
  refine v_aload_n X dX10_run_4 5 rfl 0 rfl ?_
  refine v_iconst X dX10_run_5 6 rfl ?_
  refine v_putf X hM h_mo ftX10 0 rfl rfl 8 (by decide) kf_X10_166 (fun _ h => h) rfl rfl rfl (Nat.le_of_ble_eq_true rfl) (Or.inl (fsH (by omega) (by omega))) dX10_run_6 9 rfl (ws' := modelW E b (updC (updC mo 0 (updZ (updZ (updZ (updZ (mo 0) 8 0) 9 h9_2) 10 (-1)) 15 si)) 4 c4_5)) rfl (fun H7 lo7 hzz hM hF h_mo => ?_)
  clear hzz
  refine v_aload_n X dX10_run_9 10 rfl 0 rfl ?_
  refine v_getf X hM.C h_mo.1 inX10 0 rfl rfl 10 (by decide) kf_X10_172 (fun _ h => h) rfl dX10_run_10 13 rfl ?_
  show V p l e (rmL 6 0 0) s m args below meth cd Q 3 H7 lo7 0 0 13 [(0, .ref b)] [.int (zI (-1))]
  refine v_if_lt X (by omega) dX10_run_13 16 31 rfl (by decide) (fun c_8 => ?_) (fun c_8 => ?_)
  · skip
    refine v_aload_n X dX10_run_31 32 rfl 0 rfl ?_
    refine v_muV X hM (h_mo.1) (c_X10_begins l E b (updC (updC mo 0 (updZ (updZ (updZ (updZ (mo 0) 8 0) 9 h9_2) 10 (-1)) 15 si)) 4 c4_5)) kvX10_begins kiX10_begins kl_X10_79 (q0 := 0) rfl rfl (As := []) rfl rfl rfl dX10_run_32 35 rfl (k' := 0) (n' := 0) rfl rfl (fsI (fun q q1 q2 => (Or.inl (fsH (by omega) (by omega))))) h_mo (fun rv H9 lo9 hM hF hpo => ?_)
    obtain ⟨rfl, hw_0⟩ := hpo
    have h_mo : PR E b (modelW E b (updC (updC (updC mo 0 (updZ (updZ (updZ (updZ (mo 0) 8 0) 9 h9_2) 10 (-1)) 15 si)) 1 (cpG ((mo 1)) 0 10)) 4 c4_5)) H9 := hw_0
    show V p l e (rmL 6 0 0) s m args below meth cd Q 3 H9 lo9 0 0 35 [(0, .ref b)] []
    have hR1 : RelC co (cpG (mo 1) 0 10) := hRM.1.2.of_eq hO (fun i a b => cpG_out (by omega))
    refine v_iconst X dX10_run_35 36 rfl ?_
    refine v_istore_n X dX10_run_36 37 rfl rfl (by decide) (L' := [(1, .int (zI 0)), (0, .ref b)]) rfl ?_
    refine v_iconst X dX10_run_37 38 rfl ?_
    refine v_istore_n X dX10_run_38 39 rfl rfl (by decide) (L' := [(2, .int (zI 0)), (1, .int (zI 0)), (0, .ref b)]) rfl ?_
    refine V_L (L' := [(2, .int (zI 0)), (1, .int (zI 0)), (0, .ref b)]) (LC (vz (by rfl)) (LC rfl (LC rfl rfl))) ?_
    refine up_loop si.toNat (P := fun (i : Nat) => ∀ (cq : Nat → Int → Int), ∀ (gq : Int → Int), ∀ (qv : Int), (exF pq (si.toNat - i) (i : Int) cq = exF pq si.toNat 0 co) → (Pk cq) → (RelC cq gq) → (∀ j : Int, 492 ≤ j → gq j = cpG (mo 1) 0 10 j) → ∀ (H : Heap) (lo : List Loc), MS E [(b, 5)] s H lo → PR E b (modelW E b (updC (updC (updC mo 0 (updZ (updZ (updZ (updZ (updZ (mo 0) 4 qv) 8 0) 9 h9_2) 10 (-1)) 15 si)) 1 gq) 4 c4_5)) H → V p l e (rmL 6 0 0) s m args below meth cd Q 3 H lo 0 0 39 [(2, .int (zI (i : Int))), (1, .int (zI 0)), (0, .ref b)] []) (fun i hi_i ih_i cq gq qv hex hPq hRq hfq H10 lo10 hM h_mo => ?_) co (cpG (mo 1) 0 10) (mo 0 4) rfl hP0 hR1 (fun _ _ => rfl) _ _ hM (PR.to h_mo (by rfl))
    refine v_iload_n X dX10_run_39 40 rfl 0 rfl ?_
    refine v_aload_n X dX10_run_40 41 rfl 2 rfl ?_
    refine v_getf X hM.C h_mo.1 inX10 0 rfl rfl 15 (by decide) kf_X10_188 (fun _ h => h) rfl dX10_run_41 44 rfl ?_
    show V p l e (rmL 6 0 0) s m args below meth cd Q 3 H10 lo10 0 0 44 [(2, .int (zI (i : Int))), (1, .int (zI 0)), (0, .ref b)] [.int (zI si), .int (zI (i : Int))]
    refine v_icmp_ge X (by omega) (by omega) dX10_run_44 47 65 rfl (by decide) (fun c_11 => ?_) (fun c_11 => ?_)
    · skip
      have hfin : exF pq si.toNat 0 co = (0, (i : Int), cq) := by rw [← hex, show si.toNat - i = 0 by omega]; rfl
      refine v_iload_n X dX10_run_65 66 rfl 1 rfl ?_
      refine v_if_eq X (by omega) dX10_run_66 69 90 rfl (by decide) (fun c_12 => ?_) (fun c_12 => ?_)
      · skip
        refine v_aload_n X dX10_run_90 91 rfl 2 rfl ?_
        refine v_aload_n X dX10_run_91 92 rfl 2 rfl ?_
        refine v_getf X hM.C h_mo.1 inX10 0 rfl rfl 15 (by decide) kf_X10_188 (fun _ h => h) rfl dX10_run_92 95 rfl ?_
        show V p l e (rmL 6 0 0) s m args below meth cd Q 3 H10 lo10 0 0 95 [(2, .int (zI (i : Int))), (1, .int (zI 0)), (0, .ref b)] [.int (zI si), .ref b]
        refine v_putf X hM h_mo ftX10 0 rfl rfl 4 (by decide) kf_X10_40 (fun _ h => h) rfl rfl rfl (Nat.le_of_ble_eq_true rfl) (Or.inl (fsH (by omega) (by omega))) dX10_run_95 98 rfl (ws' := modelW E b (updC (updC (updC mo 0 (updZ (updZ (updZ (updZ (updZ (mo 0) 4 si) 8 0) 9 h9_2) 10 (-1)) 15 si)) 1 gq) 4 c4_5)) rfl (fun H13 lo13 hzz hM hF h_mo => ?_)
        clear hzz
        refine v_aload_n X dX10_run_98 99 rfl 2 rfl ?_
        refine v_iload_n X dX10_run_99 100 rfl 1 rfl ?_
        refine v_if_ne X (by omega) dX10_run_100 103 107 rfl (by decide) (fun c_14 => ?_) (fun c_14 => ?_)
        · skip
          exfalso; omega
        · skip
          refine v_iconst X dX10_run_103 104 rfl ?_
          refine v_goto X dX10_run_104 108 (by decide) ?_
          refine v_iconst X dX10_run_108 109 rfl ?_
          refine v_iconst X dX10_run_109 110 rfl ?_
          refine v_iconst X dX10_run_110 111 rfl ?_
          refine v_iconst X dX10_run_111 112 rfl ?_
          refine v_muV X hM (h_mo.1) (c_X10_ends_0 l E b (updC (updC (updC mo 0 (updZ (updZ (updZ (updZ (updZ (mo 0) 4 si) 8 0) 9 h9_2) 10 (-1)) 15 si)) 1 gq) 4 c4_5) 0 0 0 2 sz hch s0 s1) kvX10_ends kiX10_ends kl_X10_85 (q0 := 0) rfl rfl (As := [.int (zI 0), .int (zI 0), .int (zI 0), .int (zI 0), .int (zI 2)]) rfl rfl rfl dX10_run_112 115 rfl (k' := 0) (n' := 0) rfl rfl (fsI (fun q q1 q2 => (Or.inl (fsH (by omega) (by omega))))) h_mo (fun rv H15 lo15 hM hF hpo => ?_)
          obtain ⟨rfl, hw_0⟩ := hpo
          have h_mo : PR E b (modelW E b (updC (updC (updC mo 0 (updZ (updZ (updZ (updZ (updZ (updZ (updZ (mo 0) 0 0) 2 (min (sz + 1) 8)) 4 si) 8 0) 9 h9_2) 10 (-1)) 15 si)) 1 (endG (gq) sz)) 4 c4_5)) H15 := hw_0
          show V p l e (rmL 6 0 0) s m args below meth cd Q 3 H15 lo15 0 0 115 [(2, .int (zI (i : Int))), (1, .int (zI 0)), (0, .ref b)] [.int (zI si)]
          subst hQ; exact m_iret X hr hlk hM dX10_run_115 rfl ⟨(endG (gq) sz), si, h9_2, (-1), si, c4_5, rfl, (by rw [hfin]; exact RelM.push hRM ⟨(hPO _ hPq).1, hRq⟩ hfq n0 n1 s0 s1), h_mo⟩
      · skip
        exfalso; omega
    · skip
      have hfz : flC cq (pq 1 (i : Int)) (pq 2 (i : Int)) (pq 3 (i : Int)) (pq 5 (i : Int)) = 0 := exF_ok (R := exF pq si.toNat 0 co) (by rw [← hex, show si.toNat - i = (si.toNat - (i + 1)) + 1 by omega]) hx
      have hPq3 := hPO _ hPq
      refine v_iload_n X dX10_run_47 48 rfl 1 rfl ?_
      refine v_if_ne X (by omega) dX10_run_48 51 65 rfl (by decide) (fun c_16 => ?_) (fun c_16 => ?_)
      · skip
        exfalso; omega
      · skip
        refine v_aload_n X dX10_run_51 52 rfl 2 rfl ?_
        refine v_iconst X dX10_run_52 53 rfl ?_
        refine v_iload_n X dX10_run_53 54 rfl 0 rfl ?_
        refine v_imul X dX10_run_54 55 rfl ?_
        refine v_muV X hM (h_mo.1) (c_X10_does_ok l E b (updC (updC (updC mo 0 (updZ (updZ (updZ (updZ (updZ (mo 0) 4 qv) 8 0) 9 h9_2) 10 (-1)) 15 si)) 1 gq) 4 c4_5) cq pq (i : Int) hPq3.1 hRq hPq3.2.1 hPq3.2.2 (e3 _ (by omega) (by omega)) (by omega) (by omega) hpr1 hpr hpf hfz) kvX10_does kiX10_does kl_X10_206 (q0 := 0) rfl rfl (As := [.int (zI (5 * (i : Int)))]) rfl rfl rfl dX10_run_55 58 rfl (k' := 0) (n' := 0) rfl rfl (fsI (fun q q1 q2 => (Or.inl (fsH (by omega) (by omega))))) h_mo (fun rv H17 lo17 hM hF hpo => ?_)
        obtain ⟨g1_18, q4_19, rfl, hp_f_20, hp_f_21, hw_0⟩ := hpo
        have h_mo : PR E b (modelW E b (updC (updC (updC mo 0 (updZ (updZ (updZ (updZ (updZ (mo 0) 4 q4_19) 8 0) 9 h9_2) 10 (-1)) 15 si)) 1 g1_18) 4 c4_5)) H17 := hw_0
        show V p l e (rmL 6 0 0) s m args below meth cd Q 3 H17 lo17 0 0 58 [(2, .int (zI (i : Int))), (1, .int (zI 0)), (0, .ref b)] [.int (zI 0)]
        refine v_istore_n X dX10_run_58 59 rfl rfl (by decide) (L' := [(1, .int (zI 0)), (2, .int (zI (i : Int))), (0, .ref b)]) rfl ?_
        refine v_iinc X dX10_run_59 62 rfl 1 rfl (by decide) (L' := [(2, .int (zI ((i : Int) + 1))), (1, .int (zI 0)), (0, .ref b)]) rfl ?_
        refine v_goto X dX10_run_62 39 (by decide) ?_
        exact V_L (L' := [(2, .int (zI ((i + 1 : Nat) : Int))), (1, .int (zI 0)), (0, .ref b)]) (LC (vz (by omega)) (LC rfl (LC rfl rfl))) (ih_i (by omega) (opC cq (pq 1 (i : Int)) (pq 2 (i : Int)) (pq 3 (i : Int)) (bz (¬ pq 4 (i : Int) = 0)) (pq 5 (i : Int))) g1_18 q4_19 (by rw [← hex, show si.toNat - i = (si.toNat - (i + 1)) + 1 by omega, exF_1 hfz rfl]; rfl) (hPs _ _ _ _ _ _ hPq (hpr1 _) (by have := bz_rg (φ := ¬ pq 4 (i : Int) = 0); omega) hfz) hp_f_20 (fun j hj => (hp_f_21 j hj).trans (hfq j hj)) _ _ hM h_mo)
  · skip
    exfalso; omega
set_option maxHeartbeats 4000000 in
set_option maxRecDepth 20000 in
theorem c_X10_run_1 (l : Launch) (E : Nat → Nat → Nat) (b : Nat) (mo : Nat → Int → Int) (co : Nat → Int → Int) (cv : Nat → Int → Int) (hc : Nat → Nat → Int → Int) (nx : Int) (sz : Int) (hs : Int) (f : Int → Int) (pr : Nat → Int → Int) (po : Int) (si : Int) (pq : Nat → Int → Int) (Pk : (Nat → Int → Int) → Prop) (hO : OkC co) (hRM : RelM co cv hc nx sz hs (mo 1)) (hch : mo 0 2 = sz) (n0 : 0 ≤ nx) (n1 : nx < 8) (s0 : 0 ≤ sz) (s1 : sz ≤ 8) (hcr : ∀ j : Int, 0 ≤ j → j < mo 0 8 → 0 ≤ mo 3 j ∧ mo 3 j < 128) (hn : 0 ≤ mo 0 8 ∧ mo 0 8 ≤ 60) (hfg : AgR f (mo 3) (mo 0 8)) (hPO : ∀ c : Nat → Int → Int, Pk c → OkC c ∧ TsI c ∧ StI c) (hPs : ∀ (c : Nat → Int → Int) (kd a y f z : Int), Pk c → (0 ≤ kd ∧ kd ≤ 6) → (0 ≤ f ∧ f ≤ 1) → flC c kd a y z = 0 → Pk (opC c kd a y f z)) (hP0 : Pk co) (hpr1 : ∀ j : Int, 0 ≤ pq 1 j ∧ pq 1 j ≤ 6) (hpr : ∀ (r : Nat) (j : Int), 0 ≤ pq r j ∧ pq r j ≤ 99) (hpf : ∀ j : Int, 0 ≤ pq 4 j ∧ pq 4 j ≤ 1) (si0 : 0 ≤ si) (si1 : si ≤ 8) (hpa : paF f (mo 0 8) 61 0 0 pr = (1, po, si, pq)) (hx : ¬ (exF pq si.toNat 0 co).1 = 0) : Mu l yX10_run cX10_run 3 (some .int) 6 0 0 E [(b, 5)] [.ref b] (fun H => PR E b (modelW E b mo) H) (fun rv H => ∃ g2 : Int → Int, ∃ q4 : Int, ∃ h9 : Int, ∃ e9 : Int, ∃ m9 : Int, ∃ c4 : Int → Int, rv = some (.int (zI 0)) ∧ RelM (co) (cv) (hc) (nx) (sz) (hs) g2 ∧ PR E b (modelW E b (updC (updC (updC mo 0 (updZ (updZ (updZ (updZ (updZ (updZ (updZ (updZ (mo 0) 0 2) 4 q4) 8 0) 9 h9) 10 e9) 12 ((exF pq si.toNat 0 co).2.1)) 13 (bz ((exF pq si.toNat 0 co).1 = 4))) 15 m9)) 1 g2) 4 c4)) H) := by
  refine Mu.start (own := RX10) rfl (by decide +kernel) (Nat.le_of_ble_eq_true rfl) ?_
  intro p e s m below meth cd args Q hQ X hr hlk hnm hM hPr
  have h_mo := hPr
  have hb0 := hO.b0
  have hbw := hO.bw
  refine v_aload_n X dX10_run_0 1 rfl 0 rfl ?_
  refine v_muV X hM (h_mo.1) (c_X10_parse l E b mo f pr hcr hn hfg) kvX10_parse kiX10_parse kl_X10_203 (q0 := 0) rfl rfl (As := []) rfl rfl rfl dX10_run_1 4 rfl (k' := 0) (n' := 0) rfl rfl (fsI (fun q q1 q2 => (Or.inl (fsH (by omega) (by omega))))) h_mo (fun rv H1 lo1 hM hF hpo => ?_)
  obtain ⟨h9_2, e10__3, m15_4, c4_5, rfl, hp_f_6, hw_0⟩ := hpo
  have h_mo : PR E b (modelW E b (updC (updC mo 0 (updZ (updZ (updZ (mo 0) 9 h9_2) 10 e10__3) 15 m15_4)) 4 c4_5)) H1 := hw_0
  show V p l e (rmL 6 0 0) s m args below meth cd Q 3 H1 lo1 0 0 4 [(0, .ref b)] []
  rw [hpa] at hp_f_6
  have hP2 := hp_f_6.resolve_right (fun z => absurd (show (1 : Int) = 0 from z.1) (by decide))
  obtain ⟨-, e1, e2, e3⟩ := hP2
  dsimp only at e2 e3
  rw [e1, e2] at h_mo
  replace h_mo : PR E b (modelW E b (updC (updC mo 0 (updZ (updZ (updZ (mo 0) 9 h9_2) 10 (-1)) 15 si)) 4 c4_5)) H1 := h_mo
  refine v_aload_n X dX10_run_4 5 rfl 0 rfl ?_
  refine v_iconst X dX10_run_5 6 rfl ?_
  refine v_putf X hM h_mo ftX10 0 rfl rfl 8 (by decide) kf_X10_166 (fun _ h => h) rfl rfl rfl (Nat.le_of_ble_eq_true rfl) (Or.inl (fsH (by omega) (by omega))) dX10_run_6 9 rfl (ws' := modelW E b (updC (updC mo 0 (updZ (updZ (updZ (updZ (mo 0) 8 0) 9 h9_2) 10 (-1)) 15 si)) 4 c4_5)) rfl (fun H7 lo7 hzz hM hF h_mo => ?_)
  clear hzz
  refine v_aload_n X dX10_run_9 10 rfl 0 rfl ?_
  refine v_getf X hM.C h_mo.1 inX10 0 rfl rfl 10 (by decide) kf_X10_172 (fun _ h => h) rfl dX10_run_10 13 rfl ?_
  show V p l e (rmL 6 0 0) s m args below meth cd Q 3 H7 lo7 0 0 13 [(0, .ref b)] [.int (zI (-1))]
  refine v_if_lt X (by omega) dX10_run_13 16 31 rfl (by decide) (fun c_8 => ?_) (fun c_8 => ?_)
  · skip
    refine v_aload_n X dX10_run_31 32 rfl 0 rfl ?_
    refine v_muV X hM (h_mo.1) (c_X10_begins l E b (updC (updC mo 0 (updZ (updZ (updZ (updZ (mo 0) 8 0) 9 h9_2) 10 (-1)) 15 si)) 4 c4_5)) kvX10_begins kiX10_begins kl_X10_79 (q0 := 0) rfl rfl (As := []) rfl rfl rfl dX10_run_32 35 rfl (k' := 0) (n' := 0) rfl rfl (fsI (fun q q1 q2 => (Or.inl (fsH (by omega) (by omega))))) h_mo (fun rv H9 lo9 hM hF hpo => ?_)
    obtain ⟨rfl, hw_0⟩ := hpo
    have h_mo : PR E b (modelW E b (updC (updC (updC mo 0 (updZ (updZ (updZ (updZ (mo 0) 8 0) 9 h9_2) 10 (-1)) 15 si)) 1 (cpG ((mo 1)) 0 10)) 4 c4_5)) H9 := hw_0
    show V p l e (rmL 6 0 0) s m args below meth cd Q 3 H9 lo9 0 0 35 [(0, .ref b)] []
    have hR1 : RelC co (cpG (mo 1) 0 10) := hRM.1.2.of_eq hO (fun i a b => cpG_out (by omega))
    refine v_iconst X dX10_run_35 36 rfl ?_
    refine v_istore_n X dX10_run_36 37 rfl rfl (by decide) (L' := [(1, .int (zI 0)), (0, .ref b)]) rfl ?_
    refine v_iconst X dX10_run_37 38 rfl ?_
    refine v_istore_n X dX10_run_38 39 rfl rfl (by decide) (L' := [(2, .int (zI 0)), (1, .int (zI 0)), (0, .ref b)]) rfl ?_
    refine V_L (L' := [(2, .int (zI 0)), (1, .int (zI 0)), (0, .ref b)]) (LC (vz (by rfl)) (LC rfl (LC rfl rfl))) ?_
    refine up_loop si.toNat (P := fun (i : Nat) => ∀ (cq : Nat → Int → Int), ∀ (gq : Int → Int), ∀ (qv : Int), (exF pq (si.toNat - i) (i : Int) cq = exF pq si.toNat 0 co) → (Pk cq) → (RelC cq gq) → (∀ j : Int, 492 ≤ j → gq j = cpG (mo 1) 0 10 j) → ∀ (H : Heap) (lo : List Loc), MS E [(b, 5)] s H lo → PR E b (modelW E b (updC (updC (updC mo 0 (updZ (updZ (updZ (updZ (updZ (mo 0) 4 qv) 8 0) 9 h9_2) 10 (-1)) 15 si)) 1 gq) 4 c4_5)) H → V p l e (rmL 6 0 0) s m args below meth cd Q 3 H lo 0 0 39 [(2, .int (zI (i : Int))), (1, .int (zI 0)), (0, .ref b)] []) (fun i hi_i ih_i cq gq qv hex hPq hRq hfq H10 lo10 hM h_mo => ?_) co (cpG (mo 1) 0 10) (mo 0 4) rfl hP0 hR1 (fun _ _ => rfl) _ _ hM (PR.to h_mo (by rfl))
    refine v_iload_n X dX10_run_39 40 rfl 0 rfl ?_
    refine v_aload_n X dX10_run_40 41 rfl 2 rfl ?_
    refine v_getf X hM.C h_mo.1 inX10 0 rfl rfl 15 (by decide) kf_X10_188 (fun _ h => h) rfl dX10_run_41 44 rfl ?_
    show V p l e (rmL 6 0 0) s m args below meth cd Q 3 H10 lo10 0 0 44 [(2, .int (zI (i : Int))), (1, .int (zI 0)), (0, .ref b)] [.int (zI si), .int (zI (i : Int))]
    refine v_icmp_ge X (by omega) (by omega) dX10_run_44 47 65 rfl (by decide) (fun c_11 => ?_) (fun c_11 => ?_)
    · skip
      have hfin : exF pq si.toNat 0 co = (0, (i : Int), cq) := by rw [← hex, show si.toNat - i = 0 by omega]; rfl
      rw [hfin] at hx
      exact absurd rfl hx
    · skip
      have hPq3 := hPO _ hPq
      by_cases hfz : flC cq (pq 1 (i : Int)) (pq 2 (i : Int)) (pq 3 (i : Int)) (pq 5 (i : Int)) = 0
      · skip
        refine v_iload_n X dX10_run_47 48 rfl 1 rfl ?_
        refine v_if_ne X (by omega) dX10_run_48 51 65 rfl (by decide) (fun c_12 => ?_) (fun c_12 => ?_)
        · skip
          exfalso; omega
        · skip
          refine v_aload_n X dX10_run_51 52 rfl 2 rfl ?_
          refine v_iconst X dX10_run_52 53 rfl ?_
          refine v_iload_n X dX10_run_53 54 rfl 0 rfl ?_
          refine v_imul X dX10_run_54 55 rfl ?_
          refine v_muV X hM (h_mo.1) (c_X10_does_ok l E b (updC (updC (updC mo 0 (updZ (updZ (updZ (updZ (updZ (mo 0) 4 qv) 8 0) 9 h9_2) 10 (-1)) 15 si)) 1 gq) 4 c4_5) cq pq (i : Int) hPq3.1 hRq hPq3.2.1 hPq3.2.2 (e3 _ (by omega) (by omega)) (by omega) (by omega) hpr1 hpr hpf hfz) kvX10_does kiX10_does kl_X10_206 (q0 := 0) rfl rfl (As := [.int (zI (5 * (i : Int)))]) rfl rfl rfl dX10_run_55 58 rfl (k' := 0) (n' := 0) rfl rfl (fsI (fun q q1 q2 => (Or.inl (fsH (by omega) (by omega))))) h_mo (fun rv H13 lo13 hM hF hpo => ?_)
          obtain ⟨g1_14, q4_15, rfl, hp_f_16, hp_f_17, hw_0⟩ := hpo
          have h_mo : PR E b (modelW E b (updC (updC (updC mo 0 (updZ (updZ (updZ (updZ (updZ (mo 0) 4 q4_15) 8 0) 9 h9_2) 10 (-1)) 15 si)) 1 g1_14) 4 c4_5)) H13 := hw_0
          show V p l e (rmL 6 0 0) s m args below meth cd Q 3 H13 lo13 0 0 58 [(2, .int (zI (i : Int))), (1, .int (zI 0)), (0, .ref b)] [.int (zI 0)]
          refine v_istore_n X dX10_run_58 59 rfl rfl (by decide) (L' := [(1, .int (zI 0)), (2, .int (zI (i : Int))), (0, .ref b)]) rfl ?_
          refine v_iinc X dX10_run_59 62 rfl 1 rfl (by decide) (L' := [(2, .int (zI ((i : Int) + 1))), (1, .int (zI 0)), (0, .ref b)]) rfl ?_
          refine v_goto X dX10_run_62 39 (by decide) ?_
          exact V_L (L' := [(2, .int (zI ((i + 1 : Nat) : Int))), (1, .int (zI 0)), (0, .ref b)]) (LC (vz (by omega)) (LC rfl (LC rfl rfl))) (ih_i (by omega) (opC cq (pq 1 (i : Int)) (pq 2 (i : Int)) (pq 3 (i : Int)) (bz (¬ pq 4 (i : Int) = 0)) (pq 5 (i : Int))) g1_14 q4_15 (by rw [← hex, show si.toNat - i = (si.toNat - (i + 1)) + 1 by omega, exF_1 hfz rfl]; rfl) (hPs _ _ _ _ _ _ hPq (hpr1 _) (by have := bz_rg (φ := ¬ pq 4 (i : Int) = 0); omega) hfz) hp_f_16 (fun j hj => (hp_f_17 j hj).trans (hfq j hj)) _ _ hM h_mo)
      · skip
        have hfin : exF pq si.toNat 0 co = (flC cq (pq 1 (i : Int)) (pq 2 (i : Int)) (pq 3 (i : Int)) (pq 5 (i : Int)), (i : Int), cq) := by rw [← hex, show si.toNat - i = (si.toNat - (i + 1)) + 1 by omega]; exact exF_2 hfz
        have hfb := flC_b cq (pq 1 (i : Int)) (pq 2 (i : Int)) (pq 3 (i : Int)) (pq 5 (i : Int))
        refine v_iload_n X dX10_run_47 48 rfl 1 rfl ?_
        refine v_if_ne X (by omega) dX10_run_48 51 65 rfl (by decide) (fun c_18 => ?_) (fun c_18 => ?_)
        · skip
          exfalso; omega
        · skip
          refine v_aload_n X dX10_run_51 52 rfl 2 rfl ?_
          refine v_iconst X dX10_run_52 53 rfl ?_
          refine v_iload_n X dX10_run_53 54 rfl 0 rfl ?_
          refine v_imul X dX10_run_54 55 rfl ?_
          refine v_muV X hM (h_mo.1) (c_X10_does_f l E b (updC (updC (updC mo 0 (updZ (updZ (updZ (updZ (updZ (mo 0) 4 qv) 8 0) 9 h9_2) 10 (-1)) 15 si)) 1 gq) 4 c4_5) cq pq (i : Int) hPq3.1 hRq hPq3.2.1 hPq3.2.2 (e3 _ (by omega) (by omega)) (by omega) (by omega) hpr1 hpr hpf hfz) kvX10_does kiX10_does kl_X10_206 (q0 := 0) rfl rfl (As := [.int (zI (5 * (i : Int)))]) rfl rfl rfl dX10_run_55 58 rfl (k' := 0) (n' := 0) rfl rfl (fun q hq => hq.elim) h_mo (fun rv H19 lo19 hM hF hpo => ?_)
          subst hpo
          replace h_mo := h_mo.kept hF 5 rfl (fun q _ _ h => h.elim)
          show V p l e (rmL 6 0 0) s m args below meth cd Q 3 H19 lo19 0 0 58 [(2, .int (zI (i : Int))), (1, .int (zI 0)), (0, .ref b)] [.int (zI ((flC cq (pq 1 (i : Int)) (pq 2 (i : Int)) (pq 3 (i : Int)) (pq 5 (i : Int)) : Nat) : Int))]
          refine v_istore_n X dX10_run_58 59 rfl rfl (by decide) (L' := [(1, .int (zI ((flC cq (pq 1 (i : Int)) (pq 2 (i : Int)) (pq 3 (i : Int)) (pq 5 (i : Int)) : Nat) : Int))), (2, .int (zI (i : Int))), (0, .ref b)]) rfl ?_
          refine v_iinc X dX10_run_59 62 rfl 1 rfl (by decide) (L' := [(2, .int (zI ((i : Int) + 1))), (1, .int (zI ((flC cq (pq 1 (i : Int)) (pq 2 (i : Int)) (pq 3 (i : Int)) (pq 5 (i : Int)) : Nat) : Int))), (0, .ref b)]) rfl ?_
          refine v_goto X dX10_run_62 39 (by decide) ?_
          refine v_iload_n X dX10_run_39 40 rfl 0 rfl ?_
          refine v_aload_n X dX10_run_40 41 rfl 2 rfl ?_
          refine v_getf X hM.C h_mo.1 inX10 0 rfl rfl 15 (by decide) kf_X10_188 (fun _ h => h) rfl dX10_run_41 44 rfl ?_
          show V p l e (rmL 6 0 0) s m args below meth cd Q 3 H19 lo19 0 0 44 [(2, .int (zI ((i : Int) + 1))), (1, .int (zI ((flC cq (pq 1 (i : Int)) (pq 2 (i : Int)) (pq 3 (i : Int)) (pq 5 (i : Int)) : Nat) : Int))), (0, .ref b)] [.int (zI si), .int (zI ((i : Int) + 1))]
          refine v_icmp_ge X (by omega) (by omega) dX10_run_44 47 65 rfl (by decide) (fun c_20 => ?_) (fun c_20 => ?_)
          · skip
            refine v_iload_n X dX10_run_65 66 rfl 1 rfl ?_
            refine v_if_eq X (by omega) dX10_run_66 69 90 rfl (by decide) (fun c_21 => ?_) (fun c_21 => ?_)
            · skip
              exfalso; omega
            · skip
              refine v_aload_n X dX10_run_69 70 rfl 2 rfl ?_
              refine v_iload_n X dX10_run_70 71 rfl 0 rfl ?_
              refine v_iconst X dX10_run_71 72 rfl ?_
              refine v_isub X dX10_run_72 73 rfl ?_
              refine v_putf X hM h_mo ftX10 0 rfl rfl 12 (by decide) kf_X10_24 (fun _ h => h) rfl rfl rfl (Nat.le_of_ble_eq_true rfl) (Or.inl (fsH (by omega) (by omega))) dX10_run_73 76 rfl (ws' := modelW E b (updC (updC (updC mo 0 (updZ (updZ (updZ (updZ (updZ (updZ (mo 0) 4 qv) 8 0) 9 h9_2) 10 (-1)) 12 ((i : Int) + 1 - 1)) 15 si)) 1 gq) 4 c4_5)) rfl (fun H22 lo22 hzz hM hF h_mo => ?_)
              clear hzz
              refine v_aload_n X dX10_run_76 77 rfl 2 rfl ?_
              refine v_iload_n X dX10_run_77 78 rfl 1 rfl ?_
              refine v_iconst X dX10_run_78 79 rfl ?_
              refine v_icmp_ne X (by omega) (by omega) dX10_run_79 82 86 rfl (by decide) (fun c_23 => ?_) (fun c_23 => ?_)
              · skip
                refine v_iconst X dX10_run_86 87 rfl ?_
                refine v_putf X hM h_mo ftX10 0 rfl rfl 13 (by decide) kf_X10_209 (fun _ h => h) rfl rfl rfl (Nat.le_of_ble_eq_true rfl) (Or.inl (fsH (by omega) (by omega))) dX10_run_87 90 rfl (ws' := modelW E b (updC (updC (updC mo 0 (updZ (updZ (updZ (updZ (updZ (updZ (updZ (mo 0) 4 qv) 8 0) 9 h9_2) 10 (-1)) 12 ((i : Int) + 1 - 1)) 13 0) 15 si)) 1 gq) 4 c4_5)) rfl (fun H24 lo24 hzz hM hF h_mo => ?_)
                clear hzz
                refine v_aload_n X dX10_run_90 91 rfl 2 rfl ?_
                refine v_aload_n X dX10_run_91 92 rfl 2 rfl ?_
                refine v_getf X hM.C h_mo.1 inX10 0 rfl rfl 15 (by decide) kf_X10_188 (fun _ h => h) rfl dX10_run_92 95 rfl ?_
                show V p l e (rmL 6 0 0) s m args below meth cd Q 3 H24 lo24 0 0 95 [(2, .int (zI ((i : Int) + 1))), (1, .int (zI ((flC cq (pq 1 (i : Int)) (pq 2 (i : Int)) (pq 3 (i : Int)) (pq 5 (i : Int)) : Nat) : Int))), (0, .ref b)] [.int (zI si), .ref b]
                refine v_putf X hM h_mo ftX10 0 rfl rfl 4 (by decide) kf_X10_40 (fun _ h => h) rfl rfl rfl (Nat.le_of_ble_eq_true rfl) (Or.inl (fsH (by omega) (by omega))) dX10_run_95 98 rfl (ws' := modelW E b (updC (updC (updC mo 0 (updZ (updZ (updZ (updZ (updZ (updZ (updZ (mo 0) 4 si) 8 0) 9 h9_2) 10 (-1)) 12 ((i : Int) + 1 - 1)) 13 0) 15 si)) 1 gq) 4 c4_5)) rfl (fun H25 lo25 hzz hM hF h_mo => ?_)
                clear hzz
                refine v_aload_n X dX10_run_98 99 rfl 2 rfl ?_
                refine v_iload_n X dX10_run_99 100 rfl 1 rfl ?_
                refine v_if_ne X (by omega) dX10_run_100 103 107 rfl (by decide) (fun c_26 => ?_) (fun c_26 => ?_)
                · skip
                  refine v_iconst X dX10_run_107 108 rfl ?_
                  refine v_iconst X dX10_run_108 109 rfl ?_
                  refine v_iconst X dX10_run_109 110 rfl ?_
                  refine v_iconst X dX10_run_110 111 rfl ?_
                  refine v_iconst X dX10_run_111 112 rfl ?_
                  refine v_muV X hM (h_mo.1) (c_X10_ends_4 l E b (updC (updC (updC mo 0 (updZ (updZ (updZ (updZ (updZ (updZ (updZ (mo 0) 4 si) 8 0) 9 h9_2) 10 (-1)) 12 ((i : Int) + 1 - 1)) 13 0) 15 si)) 1 gq) 4 c4_5) 0 0 0 2 (by omega) (by omega)) kvX10_ends kiX10_ends kl_X10_85 (q0 := 0) rfl rfl (As := [.int (zI 4), .int (zI 0), .int (zI 0), .int (zI 0), .int (zI 2)]) rfl rfl rfl dX10_run_112 115 rfl (k' := 0) (n' := 0) rfl rfl (fsI (fun q q1 q2 => (Or.inl (fsH (by omega) (by omega))))) h_mo (fun rv H27 lo27 hM hF hpo => ?_)
                  obtain ⟨rfl, hw_0⟩ := hpo
                  have h_mo : PR E b (modelW E b (updC (updC (updC mo 0 (updZ (updZ (updZ (updZ (updZ (updZ (updZ (updZ (mo 0) 0 2) 4 si) 8 0) 9 h9_2) 10 (-1)) 12 ((i : Int) + 1 - 1)) 13 0) 15 si)) 1 (cpG (gq) 10 0)) 4 c4_5)) H27 := hw_0
                  show V p l e (rmL 6 0 0) s m args below meth cd Q 3 H27 lo27 0 0 115 [(2, .int (zI ((i : Int) + 1))), (1, .int (zI ((flC cq (pq 1 (i : Int)) (pq 2 (i : Int)) (pq 3 (i : Int)) (pq 5 (i : Int)) : Nat) : Int))), (0, .ref b)] [.int (zI 0)]
                  subst hQ; exact m_iret X hr hlk hM dX10_run_115 rfl ⟨(cpG (gq) 10 0), si, h9_2, (-1), si, c4_5, rfl, (by exact RelM.back hRM hfq s1), (PR.to h_mo (by rw [hfin]; dsimp only; rw [show (i : Int) + 1 - 1 = (i : Int) by omega, bz_f (φ := flC cq (pq 1 (i : Int)) (pq 2 (i : Int)) (pq 3 (i : Int)) (pq 5 (i : Int)) = 4) (by omega)]))⟩
                · skip
                  exfalso; omega
              · skip
                refine v_iconst X dX10_run_82 83 rfl ?_
                refine v_goto X dX10_run_83 87 (by decide) ?_
                refine v_putf X hM h_mo ftX10 0 rfl rfl 13 (by decide) kf_X10_209 (fun _ h => h) rfl rfl rfl (Nat.le_of_ble_eq_true rfl) (Or.inl (fsH (by omega) (by omega))) dX10_run_87 90 rfl (ws' := modelW E b (updC (updC (updC mo 0 (updZ (updZ (updZ (updZ (updZ (updZ (updZ (mo 0) 4 qv) 8 0) 9 h9_2) 10 (-1)) 12 ((i : Int) + 1 - 1)) 13 1) 15 si)) 1 gq) 4 c4_5)) rfl (fun H28 lo28 hzz hM hF h_mo => ?_)
                clear hzz
                refine v_aload_n X dX10_run_90 91 rfl 2 rfl ?_
                refine v_aload_n X dX10_run_91 92 rfl 2 rfl ?_
                refine v_getf X hM.C h_mo.1 inX10 0 rfl rfl 15 (by decide) kf_X10_188 (fun _ h => h) rfl dX10_run_92 95 rfl ?_
                show V p l e (rmL 6 0 0) s m args below meth cd Q 3 H28 lo28 0 0 95 [(2, .int (zI ((i : Int) + 1))), (1, .int (zI ((flC cq (pq 1 (i : Int)) (pq 2 (i : Int)) (pq 3 (i : Int)) (pq 5 (i : Int)) : Nat) : Int))), (0, .ref b)] [.int (zI si), .ref b]
                refine v_putf X hM h_mo ftX10 0 rfl rfl 4 (by decide) kf_X10_40 (fun _ h => h) rfl rfl rfl (Nat.le_of_ble_eq_true rfl) (Or.inl (fsH (by omega) (by omega))) dX10_run_95 98 rfl (ws' := modelW E b (updC (updC (updC mo 0 (updZ (updZ (updZ (updZ (updZ (updZ (updZ (mo 0) 4 si) 8 0) 9 h9_2) 10 (-1)) 12 ((i : Int) + 1 - 1)) 13 1) 15 si)) 1 gq) 4 c4_5)) rfl (fun H29 lo29 hzz hM hF h_mo => ?_)
                clear hzz
                refine v_aload_n X dX10_run_98 99 rfl 2 rfl ?_
                refine v_iload_n X dX10_run_99 100 rfl 1 rfl ?_
                refine v_if_ne X (by omega) dX10_run_100 103 107 rfl (by decide) (fun c_30 => ?_) (fun c_30 => ?_)
                · skip
                  refine v_iconst X dX10_run_107 108 rfl ?_
                  refine v_iconst X dX10_run_108 109 rfl ?_
                  refine v_iconst X dX10_run_109 110 rfl ?_
                  refine v_iconst X dX10_run_110 111 rfl ?_
                  refine v_iconst X dX10_run_111 112 rfl ?_
                  refine v_muV X hM (h_mo.1) (c_X10_ends_4 l E b (updC (updC (updC mo 0 (updZ (updZ (updZ (updZ (updZ (updZ (updZ (mo 0) 4 si) 8 0) 9 h9_2) 10 (-1)) 12 ((i : Int) + 1 - 1)) 13 1) 15 si)) 1 gq) 4 c4_5) 0 0 0 2 (by omega) (by omega)) kvX10_ends kiX10_ends kl_X10_85 (q0 := 0) rfl rfl (As := [.int (zI 4), .int (zI 0), .int (zI 0), .int (zI 0), .int (zI 2)]) rfl rfl rfl dX10_run_112 115 rfl (k' := 0) (n' := 0) rfl rfl (fsI (fun q q1 q2 => (Or.inl (fsH (by omega) (by omega))))) h_mo (fun rv H31 lo31 hM hF hpo => ?_)
                  obtain ⟨rfl, hw_0⟩ := hpo
                  have h_mo : PR E b (modelW E b (updC (updC (updC mo 0 (updZ (updZ (updZ (updZ (updZ (updZ (updZ (updZ (mo 0) 0 2) 4 si) 8 0) 9 h9_2) 10 (-1)) 12 ((i : Int) + 1 - 1)) 13 1) 15 si)) 1 (cpG (gq) 10 0)) 4 c4_5)) H31 := hw_0
                  show V p l e (rmL 6 0 0) s m args below meth cd Q 3 H31 lo31 0 0 115 [(2, .int (zI ((i : Int) + 1))), (1, .int (zI ((flC cq (pq 1 (i : Int)) (pq 2 (i : Int)) (pq 3 (i : Int)) (pq 5 (i : Int)) : Nat) : Int))), (0, .ref b)] [.int (zI 0)]
                  subst hQ; exact m_iret X hr hlk hM dX10_run_115 rfl ⟨(cpG (gq) 10 0), si, h9_2, (-1), si, c4_5, rfl, (by exact RelM.back hRM hfq s1), (PR.to h_mo (by rw [hfin]; dsimp only; rw [show (i : Int) + 1 - 1 = (i : Int) by omega, bz_t (φ := flC cq (pq 1 (i : Int)) (pq 2 (i : Int)) (pq 3 (i : Int)) (pq 5 (i : Int)) = 4) (by omega)]))⟩
                · skip
                  exfalso; omega
          · skip
            refine v_iload_n X dX10_run_47 48 rfl 1 rfl ?_
            refine v_if_ne X (by omega) dX10_run_48 51 65 rfl (by decide) (fun c_32 => ?_) (fun c_32 => ?_)
            · skip
              refine v_iload_n X dX10_run_65 66 rfl 1 rfl ?_
              refine v_if_eq X (by omega) dX10_run_66 69 90 rfl (by decide) (fun c_33 => ?_) (fun c_33 => ?_)
              · skip
                exfalso; omega
              · skip
                refine v_aload_n X dX10_run_69 70 rfl 2 rfl ?_
                refine v_iload_n X dX10_run_70 71 rfl 0 rfl ?_
                refine v_iconst X dX10_run_71 72 rfl ?_
                refine v_isub X dX10_run_72 73 rfl ?_
                refine v_putf X hM h_mo ftX10 0 rfl rfl 12 (by decide) kf_X10_24 (fun _ h => h) rfl rfl rfl (Nat.le_of_ble_eq_true rfl) (Or.inl (fsH (by omega) (by omega))) dX10_run_73 76 rfl (ws' := modelW E b (updC (updC (updC mo 0 (updZ (updZ (updZ (updZ (updZ (updZ (mo 0) 4 qv) 8 0) 9 h9_2) 10 (-1)) 12 ((i : Int) + 1 - 1)) 15 si)) 1 gq) 4 c4_5)) rfl (fun H34 lo34 hzz hM hF h_mo => ?_)
                clear hzz
                refine v_aload_n X dX10_run_76 77 rfl 2 rfl ?_
                refine v_iload_n X dX10_run_77 78 rfl 1 rfl ?_
                refine v_iconst X dX10_run_78 79 rfl ?_
                refine v_icmp_ne X (by omega) (by omega) dX10_run_79 82 86 rfl (by decide) (fun c_35 => ?_) (fun c_35 => ?_)
                · skip
                  refine v_iconst X dX10_run_86 87 rfl ?_
                  refine v_putf X hM h_mo ftX10 0 rfl rfl 13 (by decide) kf_X10_209 (fun _ h => h) rfl rfl rfl (Nat.le_of_ble_eq_true rfl) (Or.inl (fsH (by omega) (by omega))) dX10_run_87 90 rfl (ws' := modelW E b (updC (updC (updC mo 0 (updZ (updZ (updZ (updZ (updZ (updZ (updZ (mo 0) 4 qv) 8 0) 9 h9_2) 10 (-1)) 12 ((i : Int) + 1 - 1)) 13 0) 15 si)) 1 gq) 4 c4_5)) rfl (fun H36 lo36 hzz hM hF h_mo => ?_)
                  clear hzz
                  refine v_aload_n X dX10_run_90 91 rfl 2 rfl ?_
                  refine v_aload_n X dX10_run_91 92 rfl 2 rfl ?_
                  refine v_getf X hM.C h_mo.1 inX10 0 rfl rfl 15 (by decide) kf_X10_188 (fun _ h => h) rfl dX10_run_92 95 rfl ?_
                  show V p l e (rmL 6 0 0) s m args below meth cd Q 3 H36 lo36 0 0 95 [(2, .int (zI ((i : Int) + 1))), (1, .int (zI ((flC cq (pq 1 (i : Int)) (pq 2 (i : Int)) (pq 3 (i : Int)) (pq 5 (i : Int)) : Nat) : Int))), (0, .ref b)] [.int (zI si), .ref b]
                  refine v_putf X hM h_mo ftX10 0 rfl rfl 4 (by decide) kf_X10_40 (fun _ h => h) rfl rfl rfl (Nat.le_of_ble_eq_true rfl) (Or.inl (fsH (by omega) (by omega))) dX10_run_95 98 rfl (ws' := modelW E b (updC (updC (updC mo 0 (updZ (updZ (updZ (updZ (updZ (updZ (updZ (mo 0) 4 si) 8 0) 9 h9_2) 10 (-1)) 12 ((i : Int) + 1 - 1)) 13 0) 15 si)) 1 gq) 4 c4_5)) rfl (fun H37 lo37 hzz hM hF h_mo => ?_)
                  clear hzz
                  refine v_aload_n X dX10_run_98 99 rfl 2 rfl ?_
                  refine v_iload_n X dX10_run_99 100 rfl 1 rfl ?_
                  refine v_if_ne X (by omega) dX10_run_100 103 107 rfl (by decide) (fun c_38 => ?_) (fun c_38 => ?_)
                  · skip
                    refine v_iconst X dX10_run_107 108 rfl ?_
                    refine v_iconst X dX10_run_108 109 rfl ?_
                    refine v_iconst X dX10_run_109 110 rfl ?_
                    refine v_iconst X dX10_run_110 111 rfl ?_
                    refine v_iconst X dX10_run_111 112 rfl ?_
                    refine v_muV X hM (h_mo.1) (c_X10_ends_4 l E b (updC (updC (updC mo 0 (updZ (updZ (updZ (updZ (updZ (updZ (updZ (mo 0) 4 si) 8 0) 9 h9_2) 10 (-1)) 12 ((i : Int) + 1 - 1)) 13 0) 15 si)) 1 gq) 4 c4_5) 0 0 0 2 (by omega) (by omega)) kvX10_ends kiX10_ends kl_X10_85 (q0 := 0) rfl rfl (As := [.int (zI 4), .int (zI 0), .int (zI 0), .int (zI 0), .int (zI 2)]) rfl rfl rfl dX10_run_112 115 rfl (k' := 0) (n' := 0) rfl rfl (fsI (fun q q1 q2 => (Or.inl (fsH (by omega) (by omega))))) h_mo (fun rv H39 lo39 hM hF hpo => ?_)
                    obtain ⟨rfl, hw_0⟩ := hpo
                    have h_mo : PR E b (modelW E b (updC (updC (updC mo 0 (updZ (updZ (updZ (updZ (updZ (updZ (updZ (updZ (mo 0) 0 2) 4 si) 8 0) 9 h9_2) 10 (-1)) 12 ((i : Int) + 1 - 1)) 13 0) 15 si)) 1 (cpG (gq) 10 0)) 4 c4_5)) H39 := hw_0
                    show V p l e (rmL 6 0 0) s m args below meth cd Q 3 H39 lo39 0 0 115 [(2, .int (zI ((i : Int) + 1))), (1, .int (zI ((flC cq (pq 1 (i : Int)) (pq 2 (i : Int)) (pq 3 (i : Int)) (pq 5 (i : Int)) : Nat) : Int))), (0, .ref b)] [.int (zI 0)]
                    subst hQ; exact m_iret X hr hlk hM dX10_run_115 rfl ⟨(cpG (gq) 10 0), si, h9_2, (-1), si, c4_5, rfl, (by exact RelM.back hRM hfq s1), (PR.to h_mo (by rw [hfin]; dsimp only; rw [show (i : Int) + 1 - 1 = (i : Int) by omega, bz_f (φ := flC cq (pq 1 (i : Int)) (pq 2 (i : Int)) (pq 3 (i : Int)) (pq 5 (i : Int)) = 4) (by omega)]))⟩
                  · skip
                    exfalso; omega
                · skip
                  refine v_iconst X dX10_run_82 83 rfl ?_
                  refine v_goto X dX10_run_83 87 (by decide) ?_
                  refine v_putf X hM h_mo ftX10 0 rfl rfl 13 (by decide) kf_X10_209 (fun _ h => h) rfl rfl rfl (Nat.le_of_ble_eq_true rfl) (Or.inl (fsH (by omega) (by omega))) dX10_run_87 90 rfl (ws' := modelW E b (updC (updC (updC mo 0 (updZ (updZ (updZ (updZ (updZ (updZ (updZ (mo 0) 4 qv) 8 0) 9 h9_2) 10 (-1)) 12 ((i : Int) + 1 - 1)) 13 1) 15 si)) 1 gq) 4 c4_5)) rfl (fun H40 lo40 hzz hM hF h_mo => ?_)
                  clear hzz
                  refine v_aload_n X dX10_run_90 91 rfl 2 rfl ?_
                  refine v_aload_n X dX10_run_91 92 rfl 2 rfl ?_
                  refine v_getf X hM.C h_mo.1 inX10 0 rfl rfl 15 (by decide) kf_X10_188 (fun _ h => h) rfl dX10_run_92 95 rfl ?_
                  show V p l e (rmL 6 0 0) s m args below meth cd Q 3 H40 lo40 0 0 95 [(2, .int (zI ((i : Int) + 1))), (1, .int (zI ((flC cq (pq 1 (i : Int)) (pq 2 (i : Int)) (pq 3 (i : Int)) (pq 5 (i : Int)) : Nat) : Int))), (0, .ref b)] [.int (zI si), .ref b]
                  refine v_putf X hM h_mo ftX10 0 rfl rfl 4 (by decide) kf_X10_40 (fun _ h => h) rfl rfl rfl (Nat.le_of_ble_eq_true rfl) (Or.inl (fsH (by omega) (by omega))) dX10_run_95 98 rfl (ws' := modelW E b (updC (updC (updC mo 0 (updZ (updZ (updZ (updZ (updZ (updZ (updZ (mo 0) 4 si) 8 0) 9 h9_2) 10 (-1)) 12 ((i : Int) + 1 - 1)) 13 1) 15 si)) 1 gq) 4 c4_5)) rfl (fun H41 lo41 hzz hM hF h_mo => ?_)
                  clear hzz
                  refine v_aload_n X dX10_run_98 99 rfl 2 rfl ?_
                  refine v_iload_n X dX10_run_99 100 rfl 1 rfl ?_
                  refine v_if_ne X (by omega) dX10_run_100 103 107 rfl (by decide) (fun c_42 => ?_) (fun c_42 => ?_)
                  · skip
                    refine v_iconst X dX10_run_107 108 rfl ?_
                    refine v_iconst X dX10_run_108 109 rfl ?_
                    refine v_iconst X dX10_run_109 110 rfl ?_
                    refine v_iconst X dX10_run_110 111 rfl ?_
                    refine v_iconst X dX10_run_111 112 rfl ?_
                    refine v_muV X hM (h_mo.1) (c_X10_ends_4 l E b (updC (updC (updC mo 0 (updZ (updZ (updZ (updZ (updZ (updZ (updZ (mo 0) 4 si) 8 0) 9 h9_2) 10 (-1)) 12 ((i : Int) + 1 - 1)) 13 1) 15 si)) 1 gq) 4 c4_5) 0 0 0 2 (by omega) (by omega)) kvX10_ends kiX10_ends kl_X10_85 (q0 := 0) rfl rfl (As := [.int (zI 4), .int (zI 0), .int (zI 0), .int (zI 0), .int (zI 2)]) rfl rfl rfl dX10_run_112 115 rfl (k' := 0) (n' := 0) rfl rfl (fsI (fun q q1 q2 => (Or.inl (fsH (by omega) (by omega))))) h_mo (fun rv H43 lo43 hM hF hpo => ?_)
                    obtain ⟨rfl, hw_0⟩ := hpo
                    have h_mo : PR E b (modelW E b (updC (updC (updC mo 0 (updZ (updZ (updZ (updZ (updZ (updZ (updZ (updZ (mo 0) 0 2) 4 si) 8 0) 9 h9_2) 10 (-1)) 12 ((i : Int) + 1 - 1)) 13 1) 15 si)) 1 (cpG (gq) 10 0)) 4 c4_5)) H43 := hw_0
                    show V p l e (rmL 6 0 0) s m args below meth cd Q 3 H43 lo43 0 0 115 [(2, .int (zI ((i : Int) + 1))), (1, .int (zI ((flC cq (pq 1 (i : Int)) (pq 2 (i : Int)) (pq 3 (i : Int)) (pq 5 (i : Int)) : Nat) : Int))), (0, .ref b)] [.int (zI 0)]
                    subst hQ; exact m_iret X hr hlk hM dX10_run_115 rfl ⟨(cpG (gq) 10 0), si, h9_2, (-1), si, c4_5, rfl, (by exact RelM.back hRM hfq s1), (PR.to h_mo (by rw [hfin]; dsimp only; rw [show (i : Int) + 1 - 1 = (i : Int) by omega, bz_t (φ := flC cq (pq 1 (i : Int)) (pq 2 (i : Int)) (pq 3 (i : Int)) (pq 5 (i : Int)) = 4) (by omega)]))⟩
                  · skip
                    exfalso; omega
            · skip
              exfalso; omega
  · skip
    exfalso; omega
set_option maxHeartbeats 4000000 in
set_option maxRecDepth 20000 in
theorem c_X10_run_0 (l : Launch) (E : Nat → Nat → Nat) (b : Nat) (mo : Nat → Int → Int) (f : Int → Int) (pr : Nat → Int → Int) (po : Int) (si : Int) (pq : Nat → Int → Int) (hcr : ∀ j : Int, 0 ≤ j → j < mo 0 8 → 0 ≤ mo 3 j ∧ mo 3 j < 128) (hn : 0 ≤ mo 0 8 ∧ mo 0 8 ≤ 60) (hfg : AgR f (mo 3) (mo 0 8)) (hpa : paF f (mo 0 8) 61 0 0 pr = (0, po, si, pq)) (gpo : Rg po) : Mu l yX10_run cX10_run 3 (some .int) 6 0 0 E [(b, 5)] [.ref b] (fun H => PR E b (modelW E b mo) H) (fun rv H => ∃ h9 : Int, ∃ m9 : Int, ∃ c4 : Int → Int, rv = some (.int (zI 0)) ∧ PR E b (modelW E b (updC (updC mo 0 (updZ (updZ (updZ (updZ (updZ (updZ (mo 0) 0 1) 8 0) 9 h9) 10 po) 11 po) 15 m9)) 4 c4)) H) := by
  refine Mu.start (own := RX10) rfl (by decide +kernel) (Nat.le_of_ble_eq_true rfl) ?_
  intro p e s m below meth cd args Q hQ X hr hlk hnm hM hPr
  have h_mo := hPr
  refine v_aload_n X dX10_run_0 1 rfl 0 rfl ?_
  refine v_muV X hM (h_mo.1) (c_X10_parse l E b mo f pr hcr hn hfg) kvX10_parse kiX10_parse kl_X10_203 (q0 := 0) rfl rfl (As := []) rfl rfl rfl dX10_run_1 4 rfl (k' := 0) (n' := 0) rfl rfl (fsI (fun q q1 q2 => (Or.inl (fsH (by omega) (by omega))))) h_mo (fun rv H1 lo1 hM hF hpo => ?_)
  obtain ⟨h9_2, e10__3, m15_4, c4_5, rfl, hp_f_6, hw_0⟩ := hpo
  have h_mo : PR E b (modelW E b (updC (updC mo 0 (updZ (updZ (updZ (mo 0) 9 h9_2) 10 e10__3) 15 m15_4)) 4 c4_5)) H1 := hw_0
  show V p l e (rmL 6 0 0) s m args below meth cd Q 3 H1 lo1 0 0 4 [(0, .ref b)] []
  rw [hpa] at hp_f_6
  have hP2 := hp_f_6.resolve_left (fun z => absurd (show (0 : Int) = 1 from z.1) (by decide))
  obtain ⟨-, e1, e2⟩ := hP2
  dsimp only at e1
  rw [e1] at h_mo e2
  replace h_mo : PR E b (modelW E b (updC (updC mo 0 (updZ (updZ (updZ (mo 0) 9 h9_2) 10 po) 15 m15_4)) 4 c4_5)) H1 := h_mo
  refine v_aload_n X dX10_run_4 5 rfl 0 rfl ?_
  refine v_iconst X dX10_run_5 6 rfl ?_
  refine v_putf X hM h_mo ftX10 0 rfl rfl 8 (by decide) kf_X10_166 (fun _ h => h) rfl rfl rfl (Nat.le_of_ble_eq_true rfl) (Or.inl (fsH (by omega) (by omega))) dX10_run_6 9 rfl (ws' := modelW E b (updC (updC mo 0 (updZ (updZ (updZ (updZ (mo 0) 8 0) 9 h9_2) 10 po) 15 m15_4)) 4 c4_5)) rfl (fun H7 lo7 hzz hM hF h_mo => ?_)
  clear hzz
  refine v_aload_n X dX10_run_9 10 rfl 0 rfl ?_
  refine v_getf X hM.C h_mo.1 inX10 0 rfl rfl 10 (by decide) kf_X10_172 (fun _ h => h) rfl dX10_run_10 13 rfl ?_
  show V p l e (rmL 6 0 0) s m args below meth cd Q 3 H7 lo7 0 0 13 [(0, .ref b)] [.int (zI po)]
  refine v_if_lt X (by omega) dX10_run_13 16 31 rfl (by decide) (fun c_8 => ?_) (fun c_8 => ?_)
  · skip
    exfalso; omega
  · skip
    refine v_aload_n X dX10_run_16 17 rfl 0 rfl ?_
    refine v_aload_n X dX10_run_17 18 rfl 0 rfl ?_
    refine v_getf X hM.C h_mo.1 inX10 0 rfl rfl 10 (by decide) kf_X10_172 (fun _ h => h) rfl dX10_run_18 21 rfl ?_
    show V p l e (rmL 6 0 0) s m args below meth cd Q 3 H7 lo7 0 0 21 [(0, .ref b)] [.int (zI po), .ref b]
    refine v_putf X hM h_mo ftX10 0 rfl rfl 11 (by decide) kf_X10_20 (fun _ h => h) rfl rfl rfl (Nat.le_of_ble_eq_true rfl) (Or.inl (fsH (by omega) (by omega))) dX10_run_21 24 rfl (ws' := modelW E b (updC (updC mo 0 (updZ (updZ (updZ (updZ (updZ (mo 0) 8 0) 9 h9_2) 10 po) 11 po) 15 m15_4)) 4 c4_5)) rfl (fun H9 lo9 hzz hM hF h_mo => ?_)
    clear hzz
    refine v_aload_n X dX10_run_24 25 rfl 0 rfl ?_
    refine v_iconst X dX10_run_25 26 rfl ?_
    refine v_putf X hM h_mo ftX10 0 rfl rfl 0 (by decide) kf_X10_30 (fun _ h => h) rfl rfl rfl (Nat.le_of_ble_eq_true rfl) (Or.inl (fsH (by omega) (by omega))) dX10_run_26 29 rfl (ws' := modelW E b (updC (updC mo 0 (updZ (updZ (updZ (updZ (updZ (updZ (mo 0) 0 1) 8 0) 9 h9_2) 10 po) 11 po) 15 m15_4)) 4 c4_5)) rfl (fun H10 lo10 hzz hM hF h_mo => ?_)
    clear hzz
    refine v_iconst X dX10_run_29 30 rfl ?_
    subst hQ; exact m_iret X hr hlk hM dX10_run_30 rfl ⟨h9_2, m15_4, c4_5, rfl, h_mo⟩
