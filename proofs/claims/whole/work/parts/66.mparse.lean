theorem kwZ_pos {q : Nat} {j : Int} (hq : q < 7) (h0 : 0 ≤ j) (h1 : j < kwLen q) : 0 < kwZ q j := by
  have key : ∀ q : Fin 7, ∀ j : Fin 9, ((j : Nat) : Int) < kwLen q → 0 < kwZ q ((j : Nat) : Int) := by decide +kernel
  have hl := kwLen_b hq
  have := key ⟨q, hq⟩ ⟨j.toNat, by omega⟩
  dsimp only at this
  rw [Int.toNat_of_nonneg h0] at this
  exact this h1
theorem sgZ_or (f : Int → Int) (n i : Int) : sgZ f n i = 0 ∨ (0 ≤ i ∧ i < n) := by
  by_cases h : sgZ f n i = 0
  · exact Or.inl h
  · exact Or.inr (sgZ_lt h)
theorem fw_le {f : Int → Int} {n po : Int} {q : Nat} (hq : q < 7) (p0 : 0 ≤ po) (p1 : po ≤ n) : po + fwZ f n po q ≤ n := by
  have hb := fwZ_b f n po hq
  by_cases h : fwZ f n po q = 0
  · omega
  · have h1 := (fwZ_ge (f := f) (n := n) (po := po) (q := q) (j := fwZ f n po q - 1) hq (by omega) (by omega)).mp (by omega)
    have h2 := kwZ_pos (q := q) (j := fwZ f n po q - 1) hq (by omega) (by omega)
    have h3 := sgZ_or f n (po + (fwZ f n po q - 1))
    omega
theorem nuP_le {f : Int → Int} {n p : Int} (h : p ≤ n) : nuP f n p ≤ n := by
  have z0 := sgZ_or f n p
  have z1 := sgZ_or f n (p + 1)
  unfold nuP
  repeat' split
  all_goals omega
theorem cwP_le {f : Int → Int} {n p : Int} (h : p ≤ n) : cwP f n p ≤ n := by
  have h0 := nuP_le (f := f) h
  have z0 := sgZ_or f n (nuP f n p)
  have z1 := sgZ_or f n (nuP f n p + 1)
  unfold cwP
  repeat' split
  all_goals omega
theorem arP_le {f : Int → Int} {n p k : Int} (h : p ≤ n) : arP f n p k ≤ n := by
  have h0 := nuP_le (f := f) h
  have h1 := cwP_le (f := f) h
  have z0 := sgZ_or f n p
  have z1 := sgZ_or f n (p + 1)
  have z2 := sgZ_or f n (p + 1 + 1)
  have z3 := sgZ_or f n (cwP f n p)
  have z4 := sgZ_or f n (cwP f n p + 1)
  unfold arP chP dgP teP quP
  repeat' split
  all_goals omega
theorem ceS_b {f : Int → Int} {n po : Int} (p0 : 0 ≤ po) (p1 : po ≤ n) : inS n (ceS f n po) := by
  have hb := bkZ_b f n po 7
  have hq : bkZ f n po 7 < 7 := by omega
  have h1 := fw_le (f := f) (n := n) (po := po) hq p0 p1
  have h2 := fwZ_b f n po hq
  have h3 := arP_le (f := f) (n := n) (p := po + fwZ f n po (bkZ f n po 7)) (k := kkZ f n po) h1
  have h4 := arP_b f n (po + fwZ f n po (bkZ f n po 7)) (kkZ f n po)
  unfold ceS
  split
  · dsimp only [inS]
    omega
  · unfold fnS paE
    split
    · dsimp only [inS]
      omega
    · dsimp only [inS]
      omega
theorem ceS_ok {f : Int → Int} {n po : Int} (p0 : 0 ≤ po) (p1 : po ≤ n) (h : (ceS f n po).2 < 0) : ¬ kkZ f n po = -1 ∧ arQ f n (po + fwZ f n po (bkZ f n po 7)) (kkZ f n po) ∧ (ceS f n po).1 = paE f n po ∧ (ceS f n po).2 = -1 := by
  have hb := bkZ_b f n po 7
  have hq : bkZ f n po 7 < 7 := by omega
  have h2 := fwZ_b f n po hq
  have h4 := arP_b f n (po + fwZ f n po (bkZ f n po 7)) (kkZ f n po)
  by_cases k : kkZ f n po = -1
  · have e : ceS f n po = (po + fwZ f n po (bkZ f n po 7), po + fwZ f n po (bkZ f n po 7)) := by unfold ceS; rw [if_pos k]
    rw [e] at h
    dsimp only at h
    omega
  · by_cases q : arQ f n (po + fwZ f n po (bkZ f n po 7)) (kkZ f n po)
    · have e : ceS f n po = (paE f n po, -1) := by unfold ceS; rw [if_neg k]; exact fnS_t q
      rw [e]
      exact ⟨k, q, rfl, rfl⟩
    · have e : ceS f n po = (paE f n po, paE f n po) := by unfold ceS; rw [if_neg k]; exact fnS_f q
      rw [e] at h
      dsimp only at h
      unfold paE at h
      omega
theorem arC_ne {f : Int → Int} {n p si k : Int} {pr : Nat → Int → Int} (r : Nat) {j : Int} (h : ¬ j = si) : arC f n p si k pr r j = pr r j := by
  have e0 : ∀ gt : Int → Int, nuG f n p si gt j = gt j := by
    intro gt
    unfold nuG
    repeat' split
    all_goals simp only [updZ, if_neg h]
  have e1 : ∀ gt : Int → Int, dgG f n p si gt j = gt j := by
    intro gt
    unfold dgG
    repeat' split
    all_goals simp only [updZ, if_neg h]
  have e2 : ∀ gt : Int → Int, chG f n p si gt j = gt j := by
    intro gt
    unfold chG
    repeat' split
    all_goals simp only [updZ, if_neg h]
  have e3 : ∀ gt : Int → Int, cwG f n p si gt j = gt j := by
    intro gt
    unfold cwG
    repeat' split
    all_goals simp only [updZ, if_neg h]
  have e4 : ∀ (c : Int) (gt : Int → Int), flG f n p si c gt j = gt j := by
    intro c gt
    unfold flG
    repeat' split
    all_goals simp only [updZ, if_neg h]
  have e5 : ∀ gt : Int → Int, teG f n p si gt j = gt j := by
    intro gt
    unfold teG
    repeat' split
    all_goals simp only [updZ, if_neg h]
  have u : ∀ (c : Nat → Int → Int) (q : Nat) (gt : Int → Int), gt j = c q j → updC c q gt r j = c r j := by
    intro c q gt hg
    by_cases y : r = q
    · subst y
      rw [updC_at]
      exact hg
    · rw [updC_ne _ _ y]
  unfold arC
  repeat' split
  · rw [u _ _ _ (by rw [e2]; rfl), u _ _ _ (e1 _)]
  · rw [u _ _ _ (e1 _)]
  · rw [u _ _ _ (by rw [e5]; rfl), u _ _ _ (by rw [e4]; rfl), u _ _ _ (by rw [e3]; rfl), u _ _ _ (e0 _)]
  · rw [u _ _ _ (by rw [e4]; rfl), u _ _ _ (by rw [e3]; rfl), u _ _ _ (e0 _)]
  · rw [u _ _ _ (e0 _)]
theorem paC_ne {f : Int → Int} {n po si : Int} {pr : Nat → Int → Int} (r : Nat) {j : Int} (h : ¬ j = si) : paC f n po si pr r j = pr r j := by
  by_cases y : r = 1
  · subst y
    show updZ _ si _ j = _
    rw [updZ_ne _ _ h]
    exact arC_ne 1 h
  · show updC _ 1 _ r j = _
    rw [updC_ne _ _ y]
    exact arC_ne r h
theorem CmR.keep {pq pq' : Nat → Int → Int} {cm cm' : Int → Int} {k : Int} (h : CmR pq cm k) (h1 : ∀ r, pq' r k = pq r k) (h2 : ∀ j : Int, 5 * k ≤ j → j < 5 * k + 5 → cm' j = cm j) : CmR pq' cm' k := by
  unfold CmR at h ⊢
  rw [h1 1, h1 2, h1 3, h1 4, h1 5, h2 _ (by omega) (by omega), h2 _ (by omega) (by omega), h2 _ (by omega) (by omega), h2 _ (by omega) (by omega), h2 _ (by omega) (by omega)]
  exact h
def PaO (R : PaR) (e m : Int) (cm : Int → Int) : Prop := (R.1 = 1 ∧ e = -1 ∧ m = R.2.2.1 ∧ ∀ k, 0 ≤ k → k < R.2.2.1 → CmR R.2.2.2 cm k) ∨ (R.1 = 0 ∧ e = R.2.1 ∧ 0 ≤ e)
theorem fin_A {f : Int → Int} {n po si : Int} {m : Nat} {pq : Nat → Int → Int} {cm : Int → Int} {R : PaR} (p0 : 0 ≤ po) (hpa : paF f n (m + 1) po si pq = R) (h : 0 ≤ (ceS f n po).2) : PaO R (ceS f n po).2 (si + 1) cm := by
  refine Or.inr ?_
  by_cases k : kkZ f n po = -1
  · have e : ceS f n po = (po + fwZ f n po (bkZ f n po 7), po + fwZ f n po (bkZ f n po 7)) := by unfold ceS; rw [if_pos k]
    rw [e] at h ⊢
    rw [← hpa, paF_1 k]
    exact ⟨rfl, rfl, h⟩
  · by_cases q : arQ f n (po + fwZ f n po (bkZ f n po 7)) (kkZ f n po)
    · have e : ceS f n po = (paE f n po, -1) := by unfold ceS; rw [if_neg k]; exact fnS_t q
      rw [e] at h
      exact absurd (show (0 : Int) ≤ -1 from h) (by decide)
    · have e : ceS f n po = (paE f n po, paE f n po) := by unfold ceS; rw [if_neg k]; exact fnS_f q
      rw [e] at h ⊢
      rw [← hpa, paF_2 k q]
      exact ⟨rfl, rfl, h⟩
theorem fin_B {f : Int → Int} {n po si : Int} {m : Nat} {pq : Nat → Int → Int} {cm : Int → Int} {R : PaR} (p0 : 0 ≤ po) (p1 : po ≤ n) (hpa : paF f n (m + 1) po si pq = R) (h : (ceS f n po).2 < 0) (hn : (ceS f n po).1 = n) (hcm : ∀ k : Int, 0 ≤ k → k < si → CmR pq cm k) (hcl : ¬ kkZ f n po = -1 → arQ f n (po + fwZ f n po (bkZ f n po 7)) (kkZ f n po) → CmR (paC f n po si pq) cm si) : PaO R (ceS f n po).2 (si + 1) cm := by
  obtain ⟨k, q, e1, e2⟩ := ceS_ok p0 p1 h
  refine Or.inl ?_
  rw [← hpa, paF_3 k q (by rw [← e1]; exact hn)]
  refine ⟨rfl, e2, rfl, fun j j0 j1 => ?_⟩
  dsimp only at j1 ⊢
  by_cases y : j = si
  · rw [y]
    exact hcl k q
  · exact (hcm j j0 (by omega)).keep (fun r => paC_ne r y) (fun _ _ _ => rfl)
theorem fin_C {f : Int → Int} {n po si : Int} {m : Nat} {pq : Nat → Int → Int} {cm : Int → Int} {R : PaR} (p0 : 0 ≤ po) (p1 : po ≤ n) (hpa : paF f n (m + 1) po si pq = R) (h : (ceS f n po).2 < 0) (hn : ¬ (ceS f n po).1 = n) (hs : ¬ sgZ f n (ceS f n po).1 = 59) : PaO R (ceS f n po).1 (si + 1) cm := by
  obtain ⟨k, q, e1, e2⟩ := ceS_ok p0 p1 h
  have hb := (ceS_b (f := f) p0 p1).1.1
  refine Or.inr ?_
  rw [e1] at hn hs hb ⊢
  rw [← hpa, paF_5 k q hn hs]
  exact ⟨rfl, rfl, hb⟩
theorem nxt_cm {f : Int → Int} {n po si : Int} {pq : Nat → Int → Int} {cm cm' : Int → Int} (hcm : ∀ k : Int, 0 ≤ k → k < si → CmR pq cm k) (hcl : CmR (paC f n po si pq) cm si) (hfr : ∀ j : Int, j < 5 * (si + 1) → cm' j = cm j) : ∀ k : Int, 0 ≤ k → k < si + 1 → CmR (paC f n po si pq) cm' k := by
  intro k k0 k1
  by_cases y : k = si
  · subst y
    exact hcl.keep (fun _ => rfl) (fun j _ hj => hfr j (by omega))
  · exact (hcm k k0 (by omega)).keep (fun r => paC_ne r y) (fun j _ hj => hfr j (by omega))
theorem c_X10_command (l : Launch) (E : Nat → Nat → Nat) (b : Nat) (mo : Nat → Int → Int) (f : Int → Int) (pq : Nat → Int → Int) (po : Int) (si : Int) (hcr : ∀ j : Int, 0 ≤ j → j < mo 0 8 → 0 ≤ mo 3 j ∧ mo 3 j < 128) (hn : 0 ≤ mo 0 8 ∧ mo 0 8 ≤ 60) (hfg : AgR f (mo 3) (mo 0 8)) (e9 : mo 0 9 = po) (e10 : mo 0 10 = -1) (p0 : 0 ≤ po) (p1 : po ≤ mo 0 8) (hsi : mo 0 15 = si) (si0 : 0 ≤ si) (si1 : si < 61) : Mu l yX10_command cX10_command 4 none 4 0 0 E [(b, 5)] [.ref b] (fun H => PR E b (modelW E b mo) H) (fun rv H => ∃ q4 : Int → Int, rv = none ∧ (¬ kkZ f (mo 0 8) po = -1 → arQ f (mo 0 8) (po + fwZ f (mo 0 8) po (bkZ f (mo 0 8) po 7)) (kkZ f (mo 0 8) po) → CmR (paC f (mo 0 8) po si pq) q4 si) ∧ (∀ j : Int, j < 5 * si → q4 j = mo 4 j) ∧ PR E b (modelW E b (updC (updC mo 0 (updZ (updZ (updZ (mo 0) 9 ((ceS f (mo 0 8) po).1)) 10 ((ceS f (mo 0 8) po).2)) 15 (si + 1))) 4 q4)) H) := by
  have bs : inS (mo 0 8) ((po, -1) : Int × Int) := by dsimp only [inS]; omega
  by_cases h1 : sgM (mo 3) (mo 0 8) po = 99
  · by_cases hl : sgM (mo 3) (mo 0 8) (po + 1) = 108
    · refine Mu.mono (c_X10_command_l l E b mo (po, -1) si hcr hn e9 e10 bs rfl hsi si0 si1 h1 hl) (fun H h => h) (fun rv H h => ?_)
      obtain ⟨e, h⟩ := h
      have hc := cmd_l (f := f) (g := mo 3) (n := mo 0 8) (cm0 := mo 4) (si := si) (pr := pq) (sp := (po, -1)) rfl p0 hfg h1 hl
      rw [hc.1] at h
      refine ⟨_, e, hc.2, fun j hj => ?_, h⟩
      rw [updZ_ne _ _ (by omega), updZ_ne _ _ (by omega)]
      exact if_neg (by omega)
    · refine Mu.mono (c_X10_command_c l E b mo (po, -1) si hcr hn e9 e10 bs rfl hsi si0 si1 h1 hl) (fun H h => h) (fun rv H h => ?_)
      obtain ⟨e, h⟩ := h
      have hc := cmd_c (f := f) (g := mo 3) (n := mo 0 8) (cm0 := mo 4) (si := si) (pr := pq) (sp := (po, -1)) rfl p0 hfg h1 hl
      rw [hc.1] at h
      refine ⟨_, e, hc.2, fun j hj => ?_, h⟩
      rw [updZ_ne _ _ (by omega), updZ_ne _ _ (by omega), updZ_ne _ _ (by omega)]
      exact if_neg (by omega)
  by_cases hw : sgM (mo 3) (mo 0 8) po = 119
  · refine Mu.mono (c_X10_command_w l E b mo (po, -1) si hcr hn e9 e10 bs rfl hsi si0 si1 hw) (fun H h => h) (fun rv H h => ?_)
    obtain ⟨e, h⟩ := h
    have hc := cmd_w (f := f) (g := mo 3) (n := mo 0 8) (cm0 := mo 4) (si := si) (pr := pq) (sp := (po, -1)) rfl p0 hfg hw
    rw [hc.1] at h
    refine ⟨_, e, hc.2, fun j hj => ?_, h⟩
    rw [updZ_ne _ _ (by omega), updZ_ne _ _ (by omega)]
    exact if_neg (by omega)
  by_cases ht : sgM (mo 3) (mo 0 8) po = 116
  · refine Mu.mono (c_X10_command_t l E b mo (po, -1) si hcr hn e9 e10 bs rfl hsi si0 si1 ht) (fun H h => h) (fun rv H h => ?_)
    obtain ⟨e, h⟩ := h
    have hc := cmd_t (f := f) (g := mo 3) (n := mo 0 8) (cm0 := mo 4) (si := si) (pr := pq) (sp := (po, -1)) rfl p0 hfg ht
    rw [hc.1] at h
    refine ⟨_, e, hc.2, fun j hj => ?_, h⟩
    rw [updZ_ne _ _ (by omega), updZ_ne _ _ (by omega), updZ_ne _ _ (by omega), updZ_ne _ _ (by omega), updZ_ne _ _ (by omega)]
    exact if_neg (by omega)
  by_cases hq : sgM (mo 3) (mo 0 8) po = 113
  · refine Mu.mono (c_X10_command_q l E b mo (po, -1) si hcr hn e9 e10 bs rfl hsi si0 si1 hq) (fun H h => h) (fun rv H h => ?_)
    obtain ⟨e, h⟩ := h
    have hc := cmd_q (f := f) (g := mo 3) (n := mo 0 8) (cm0 := mo 4) (si := si) (pr := pq) (sp := (po, -1)) rfl p0 hfg hq
    rw [hc.1] at h
    refine ⟨_, e, hc.2, fun j hj => ?_, h⟩
    rw [updZ_ne _ _ (by omega), updZ_ne _ _ (by omega), updZ_ne _ _ (by omega), updZ_ne _ _ (by omega)]
    exact if_neg (by omega)
  by_cases hd : sgM (mo 3) (mo 0 8) po = 100
  · refine Mu.mono (c_X10_command_d l E b mo (po, -1) si hcr hn e9 e10 bs rfl hsi si0 si1 hd) (fun H h => h) (fun rv H h => ?_)
    obtain ⟨e, h⟩ := h
    have hc := cmd_d (f := f) (g := mo 3) (n := mo 0 8) (cm0 := mo 4) (si := si) (pr := pq) (sp := (po, -1)) rfl p0 hfg hd
    rw [hc.1] at h
    refine ⟨_, e, hc.2, fun j hj => ?_, h⟩
    rw [updZ_ne _ _ (by omega), updZ_ne _ _ (by omega)]
    exact if_neg (by omega)
  by_cases ha : sgM (mo 3) (mo 0 8) po = 97
  · refine Mu.mono (c_X10_command_a l E b mo (po, -1) si hcr hn e9 e10 bs rfl hsi si0 si1 ha) (fun H h => h) (fun rv H h => ?_)
    obtain ⟨e, h⟩ := h
    have hc := cmd_a (f := f) (g := mo 3) (n := mo 0 8) (cm0 := mo 4) (si := si) (pr := pq) (sp := (po, -1)) rfl p0 hfg ha
    rw [hc.1] at h
    refine ⟨_, e, hc.2, fun j hj => ?_, h⟩
    rw [updZ_ne _ _ (by omega), updZ_ne _ _ (by omega)]
    exact if_neg (by omega)
  have hz : ¬ (sgM (mo 3) (mo 0 8) po = 99 ∨ sgM (mo 3) (mo 0 8) po = 119 ∨ sgM (mo 3) (mo 0 8) po = 116 ∨ sgM (mo 3) (mo 0 8) po = 113 ∨ sgM (mo 3) (mo 0 8) po = 100 ∨ sgM (mo 3) (mo 0 8) po = 97) := by omega
  refine Mu.mono (c_X10_command_0 l E b mo (po, -1) si hcr hn e9 e10 bs rfl hsi si0 si1 hz) (fun H h => h) (fun rv H h => ?_)
  obtain ⟨e, h⟩ := h
  have hc := cmd_0 (f := f) (g := mo 3) (n := mo 0 8) (sp := (po, -1)) p0 hfg hz
  have hc1 : ((po, po) : Int × Int) = ceS f (mo 0 8) po := hc.1
  have hh : ((po, -1) : Int × Int).1 = (ceS f (mo 0 8) po).1 ∧ ((po, -1) : Int × Int).1 = (ceS f (mo 0 8) po).2 := by rw [← hc1]; exact ⟨rfl, rfl⟩
  have h := PR.to h (show modelW E b (updC (updC mo 0 (updZ (updZ (updZ (mo 0) 9 ((po, -1) : Int × Int).1) 10 ((po, -1) : Int × Int).1) 15 (si + 1))) 4 (clB (mo 4) (5 * si) 5)) = modelW E b (updC (updC mo 0 (updZ (updZ (updZ (mo 0) 9 (ceS f (mo 0 8) po).1) 10 (ceS f (mo 0 8) po).2) 15 (si + 1))) 4 (clB (mo 4) (5 * si) 5)) from by rw [← hh.1, ← hh.2])
  exact ⟨_, e, fun z => absurd hc.2 z, fun j hj => if_neg (by omega), h⟩
set_option maxHeartbeats 4000000 in
set_option maxRecDepth 20000 in
theorem c_X10_parse (l : Launch) (E : Nat → Nat → Nat) (b : Nat) (mo : Nat → Int → Int) (f : Int → Int) (pr : Nat → Int → Int) (hcr : ∀ j : Int, 0 ≤ j → j < mo 0 8 → 0 ≤ mo 3 j ∧ mo 3 j < 128) (hn : 0 ≤ mo 0 8 ∧ mo 0 8 ≤ 60) (hfg : AgR f (mo 3) (mo 0 8)) : Mu l yX10_parse cX10_parse 1 none 5 0 0 E [(b, 5)] [.ref b] (fun H => PR E b (modelW E b mo) H) (fun rv H => ∃ h9 : Int, ∃ e10_ : Int, ∃ m15 : Int, ∃ c4 : Int → Int, rv = none ∧ PaO (paF f (mo 0 8) 61 0 0 pr) e10_ m15 c4 ∧ PR E b (modelW E b (updC (updC mo 0 (updZ (updZ (updZ (mo 0) 9 h9) 10 e10_) 15 m15)) 4 c4)) H) := by
  refine Mu.start (own := RX10) rfl (by decide +kernel) (Nat.le_of_ble_eq_true rfl) ?_
  intro p e s m below meth cd args Q hQ X hr hlk hnm hM hPr
  have h_mo := hPr
  refine v_aload_n X dX10_parse_0 1 rfl 0 rfl ?_
  refine v_iconst X dX10_parse_1 2 rfl ?_
  refine v_putf X hM h_mo ftX10 0 rfl rfl 9 (by decide) kf_X10_169 (fun _ h => h) rfl rfl rfl (Nat.le_of_ble_eq_true rfl) (Or.inl (fsH (by omega) (by omega))) dX10_parse_2 5 rfl (ws' := modelW E b (updC mo 0 (updZ (mo 0) 9 0))) rfl (fun H1 lo1 hzz hM hF h_mo => ?_)
  clear hzz
  refine v_aload_n X dX10_parse_5 6 rfl 0 rfl ?_
  refine v_iconst X dX10_parse_6 7 rfl ?_
  refine v_putf X hM h_mo ftX10 0 rfl rfl 10 (by decide) kf_X10_172 (fun _ h => h) rfl rfl rfl (Nat.le_of_ble_eq_true rfl) (Or.inl (fsH (by omega) (by omega))) dX10_parse_7 10 rfl (ws' := modelW E b (updC mo 0 (updZ (updZ (mo 0) 9 0) 10 (-1)))) rfl (fun H2 lo2 hzz hM hF h_mo => ?_)
  clear hzz
  refine v_aload_n X dX10_parse_10 11 rfl 0 rfl ?_
  refine v_iconst X dX10_parse_11 12 rfl ?_
  refine v_putf X hM h_mo ftX10 0 rfl rfl 15 (by decide) kf_X10_188 (fun _ h => h) rfl rfl rfl (Nat.le_of_ble_eq_true rfl) (Or.inl (fsH (by omega) (by omega))) dX10_parse_12 15 rfl (ws' := modelW E b (updC mo 0 (updZ (updZ (updZ (mo 0) 9 0) 10 (-1)) 15 0))) rfl (fun H3 lo3 hzz hM hF h_mo => ?_)
  clear hzz
  refine v_aload_n X dX10_parse_15 16 rfl 0 rfl ?_
  refine v_muV X hM (h_mo.1) (c_X10_command l E b (updC mo 0 (updZ (updZ (updZ (mo 0) 9 0) 10 (-1)) 15 0)) f pr 0 0 hcr hn hfg (by first | rfl | assumption) (show (-1) = -1 from (by first | rfl | assumption | omega)) (by omega) (show 0 ≤ mo 0 8 from (by omega)) (show 0 = 0 from (by omega)) (by omega) (by omega)) kvX10_command kiX10_command kl_X10_200 (q0 := 0) rfl rfl (As := []) rfl rfl rfl dX10_parse_16 19 rfl (k' := 0) (n' := 0) rfl rfl (fsI (fun q q1 q2 => (Or.inl (fsH (by omega) (by omega))))) h_mo (fun rv H4 lo4 hM hF hpo => ?_)
  obtain ⟨q4_5, rfl, hp_f_6, hp_f_7, hw_0⟩ := hpo
  have h_mo : PR E b (modelW E b (updC (updC mo 0 (updZ (updZ (updZ (mo 0) 9 ((ceS f (mo 0 8) 0).1)) 10 ((ceS f (mo 0 8) 0).2)) 15 (0 + 1))) 4 q4_5)) H4 := hw_0
  show V p l e (rmL 5 0 0) s m args below meth cd Q 1 H4 lo4 0 0 19 [(0, .ref b)] []
  refine V_L (L' := [(0, .ref b)]) (LC rfl rfl) ?_
  refine up_loop 61 (P := fun (i : Nat) => ∀ (po : Int), ∀ (si : Int), ∀ (pq : Nat → Int → Int), ∀ (cm : Int → Int), (paF f (mo 0 8) (61 - i) po si pq = paF f (mo 0 8) 61 0 0 pr) → (0 ≤ po ∧ po ≤ mo 0 8) → (si = (i : Int) ∧ 8 * si ≤ po) → (∀ k : Int, 0 ≤ k → k < si → CmR pq cm k) → (¬ kkZ f (mo 0 8) po = -1 → arQ f (mo 0 8) (po + fwZ f (mo 0 8) po (bkZ f (mo 0 8) po 7)) (kkZ f (mo 0 8) po) → CmR (paC f (mo 0 8) po si pq) cm si) → ∀ (H : Heap) (lo : List Loc), MS E [(b, 5)] s H lo → PR E b (modelW E b (updC (updC mo 0 (updZ (updZ (updZ (mo 0) 9 ((ceS f (mo 0 8) po).1)) 10 ((ceS f (mo 0 8) po).2)) 15 (si + 1))) 4 cm)) H → V p l e (rmL 5 0 0) s m args below meth cd Q 1 H lo 0 0 19 [(0, .ref b)] []) (fun i hi_i ih_i po si pq cm hpa hpo hsi hcm hcl H8 lo8 hM h_mo => ?_) 0 0 pr q4_5 rfl (by omega) (by omega) (fun k a c => absurd c (by omega)) hp_f_6 _ _ hM h_mo
  have hcb := ceS_b (f := f) hpo.1 hpo.2
  dsimp only [inS] at hcb
  refine v_aload_n X dX10_parse_19 20 rfl 0 rfl ?_
  refine v_getf X hM.C h_mo.1 inX10 0 rfl rfl 10 (by decide) kf_X10_172 (fun _ h => h) rfl dX10_parse_20 23 rfl ?_
  show V p l e (rmL 5 0 0) s m args below meth cd Q 1 H8 lo8 0 0 23 [(0, .ref b)] [.int (zI ((ceS f (mo 0 8) po).2))]
  refine v_if_ge X (by omega) dX10_parse_23 26 52 rfl (by decide) (fun c_9 => ?_) (fun c_9 => ?_)
  · skip
    have hcz := ceS_b (f := f) hpo.1 hpo.2
    dsimp only [inS] at hcz
    have hzm := sgM_Z (i := (ceS f (mo 0 8) po).1) hfg (by omega)
    refine v_aload_n X dX10_parse_52 53 rfl 0 rfl ?_
    refine v_getf X hM.C h_mo.1 inX10 0 rfl rfl 10 (by decide) kf_X10_172 (fun _ h => h) rfl dX10_parse_53 56 rfl ?_
    show V p l e (rmL 5 0 0) s m args below meth cd Q 1 H8 lo8 0 0 56 [(0, .ref b)] [.int (zI ((ceS f (mo 0 8) po).2))]
    refine v_if_ge X (by omega) dX10_parse_56 59 78 rfl (by decide) (fun c_10 => ?_) (fun c_10 => ?_)
    · skip
      subst hQ; exact m_vret X hr hlk hM dX10_parse_78 rfl ⟨((ceS f (mo 0 8) po).1), ((ceS f (mo 0 8) po).2), (si + 1), cm, rfl, (by first | exact fin_A hpo.1 (show paF f (mo 0 8) ((60 - i) + 1) po si pq = paF f (mo 0 8) 61 0 0 pr from by rw [← hpa, show 61 - i = (60 - i) + 1 by omega]) (by omega) | exact fin_B hpo.1 hpo.2 (show paF f (mo 0 8) ((60 - i) + 1) po si pq = paF f (mo 0 8) 61 0 0 pr from by rw [← hpa, show 61 - i = (60 - i) + 1 by omega]) (by omega) (by omega) hcm hcl | exact fin_C hpo.1 hpo.2 (show paF f (mo 0 8) ((60 - i) + 1) po si pq = paF f (mo 0 8) 61 0 0 pr from by rw [← hpa, show 61 - i = (60 - i) + 1 by omega]) (by omega) (by omega) (by omega)), h_mo⟩
    · skip
      refine v_aload_n X dX10_parse_59 60 rfl 0 rfl ?_
      refine v_getf X hM.C h_mo.1 inX10 0 rfl rfl 9 (by decide) kf_X10_169 (fun _ h => h) rfl dX10_parse_60 63 rfl ?_
      show V p l e (rmL 5 0 0) s m args below meth cd Q 1 H8 lo8 0 0 63 [(0, .ref b)] [.int (zI ((ceS f (mo 0 8) po).1))]
      refine v_aload_n X dX10_parse_63 64 rfl 0 rfl ?_
      refine v_getf X hM.C h_mo.1 inX10 0 rfl rfl 8 (by decide) kf_X10_166 (fun _ h => h) rfl dX10_parse_64 67 rfl ?_
      show V p l e (rmL 5 0 0) s m args below meth cd Q 1 H8 lo8 0 0 67 [(0, .ref b)] [.int (zI (mo 0 8)), .int (zI ((ceS f (mo 0 8) po).1))]
      refine v_icmp_ge X (by omega) (by omega) dX10_parse_67 70 78 rfl (by decide) (fun c_11 => ?_) (fun c_11 => ?_)
      · skip
        subst hQ; exact m_vret X hr hlk hM dX10_parse_78 rfl ⟨((ceS f (mo 0 8) po).1), ((ceS f (mo 0 8) po).2), (si + 1), cm, rfl, (by first | exact fin_A hpo.1 (show paF f (mo 0 8) ((60 - i) + 1) po si pq = paF f (mo 0 8) 61 0 0 pr from by rw [← hpa, show 61 - i = (60 - i) + 1 by omega]) (by omega) | exact fin_B hpo.1 hpo.2 (show paF f (mo 0 8) ((60 - i) + 1) po si pq = paF f (mo 0 8) 61 0 0 pr from by rw [← hpa, show 61 - i = (60 - i) + 1 by omega]) (by omega) (by omega) hcm hcl | exact fin_C hpo.1 hpo.2 (show paF f (mo 0 8) ((60 - i) + 1) po si pq = paF f (mo 0 8) 61 0 0 pr from by rw [← hpa, show 61 - i = (60 - i) + 1 by omega]) (by omega) (by omega) (by omega)), h_mo⟩
      · skip
        refine v_aload_n X dX10_parse_70 71 rfl 0 rfl ?_
        refine v_aload_n X dX10_parse_71 72 rfl 0 rfl ?_
        refine v_getf X hM.C h_mo.1 inX10 0 rfl rfl 9 (by decide) kf_X10_169 (fun _ h => h) rfl dX10_parse_72 75 rfl ?_
        show V p l e (rmL 5 0 0) s m args below meth cd Q 1 H8 lo8 0 0 75 [(0, .ref b)] [.int (zI ((ceS f (mo 0 8) po).1)), .ref b]
        refine v_putf X hM h_mo ftX10 0 rfl rfl 10 (by decide) kf_X10_172 (fun _ h => h) rfl rfl rfl (Nat.le_of_ble_eq_true rfl) (Or.inl (fsH (by omega) (by omega))) dX10_parse_75 78 rfl (ws' := modelW E b (updC (updC mo 0 (updZ (updZ (updZ (mo 0) 9 ((ceS f (mo 0 8) po).1)) 10 ((ceS f (mo 0 8) po).1)) 15 (si + 1))) 4 cm)) rfl (fun H12 lo12 hzz hM hF h_mo => ?_)
        clear hzz
        subst hQ; exact m_vret X hr hlk hM dX10_parse_78 rfl ⟨((ceS f (mo 0 8) po).1), ((ceS f (mo 0 8) po).1), (si + 1), cm, rfl, (by first | exact fin_A hpo.1 (show paF f (mo 0 8) ((60 - i) + 1) po si pq = paF f (mo 0 8) 61 0 0 pr from by rw [← hpa, show 61 - i = (60 - i) + 1 by omega]) (by omega) | exact fin_B hpo.1 hpo.2 (show paF f (mo 0 8) ((60 - i) + 1) po si pq = paF f (mo 0 8) 61 0 0 pr from by rw [← hpa, show 61 - i = (60 - i) + 1 by omega]) (by omega) (by omega) hcm hcl | exact fin_C hpo.1 hpo.2 (show paF f (mo 0 8) ((60 - i) + 1) po si pq = paF f (mo 0 8) 61 0 0 pr from by rw [← hpa, show 61 - i = (60 - i) + 1 by omega]) (by omega) (by omega) (by omega)), h_mo⟩
  · skip
    have hce := ceS_ok hpo.1 hpo.2 (show (ceS f (mo 0 8) po).2 < 0 from by omega)
    refine v_aload_n X dX10_parse_26 27 rfl 0 rfl ?_
    refine v_rdV X hM.C h_mo.1 (c_X10_sign l E b (updC (updC mo 0 (updZ (updZ (updZ (mo 0) 9 ((ceS f (mo 0 8) po).1)) 10 ((ceS f (mo 0 8) po).2)) 15 (si + 1))) 4 cm) (ceS f (mo 0 8) po) hcr hn (by first | rfl | assumption) (show inS (mo 0 8) (ceS f (mo 0 8) po) from (by first | assumption | (dsimp only [inS]; omega)))) kvX10_sign kiX10_sign kl_X10_175 rfl rfl (As := []) rfl rfl rfl dX10_parse_27 30 rfl ?_
    show V p l e (rmL 5 0 0) s m args below meth cd Q 1 H8 lo8 0 0 30 [(0, .ref b)] [.int (zI (sgM (mo 3) (mo 0 8) (ceS f (mo 0 8) po).1))]
    have hf_13 := sgM_b ((mo 3)) (mo 0 8) (ceS f (mo 0 8) po).1 hcr (by first | omega | (dsimp only; omega))
    refine v_bipush X dX10_parse_30 32 rfl rfl ?_
    refine v_icmp_ne X (by omega) (by omega) dX10_parse_32 35 52 rfl (by decide) (fun c_14 => ?_) (fun c_14 => ?_)
    · skip
      have hcz := ceS_b (f := f) hpo.1 hpo.2
      dsimp only [inS] at hcz
      have hzm := sgM_Z (i := (ceS f (mo 0 8) po).1) hfg (by omega)
      refine v_aload_n X dX10_parse_52 53 rfl 0 rfl ?_
      refine v_getf X hM.C h_mo.1 inX10 0 rfl rfl 10 (by decide) kf_X10_172 (fun _ h => h) rfl dX10_parse_53 56 rfl ?_
      show V p l e (rmL 5 0 0) s m args below meth cd Q 1 H8 lo8 0 0 56 [(0, .ref b)] [.int (zI ((ceS f (mo 0 8) po).2))]
      refine v_if_ge X (by omega) dX10_parse_56 59 78 rfl (by decide) (fun c_15 => ?_) (fun c_15 => ?_)
      · skip
        subst hQ; exact m_vret X hr hlk hM dX10_parse_78 rfl ⟨((ceS f (mo 0 8) po).1), ((ceS f (mo 0 8) po).2), (si + 1), cm, rfl, (by first | exact fin_A hpo.1 (show paF f (mo 0 8) ((60 - i) + 1) po si pq = paF f (mo 0 8) 61 0 0 pr from by rw [← hpa, show 61 - i = (60 - i) + 1 by omega]) (by omega) | exact fin_B hpo.1 hpo.2 (show paF f (mo 0 8) ((60 - i) + 1) po si pq = paF f (mo 0 8) 61 0 0 pr from by rw [← hpa, show 61 - i = (60 - i) + 1 by omega]) (by omega) (by omega) hcm hcl | exact fin_C hpo.1 hpo.2 (show paF f (mo 0 8) ((60 - i) + 1) po si pq = paF f (mo 0 8) 61 0 0 pr from by rw [← hpa, show 61 - i = (60 - i) + 1 by omega]) (by omega) (by omega) (by omega)), h_mo⟩
      · skip
        refine v_aload_n X dX10_parse_59 60 rfl 0 rfl ?_
        refine v_getf X hM.C h_mo.1 inX10 0 rfl rfl 9 (by decide) kf_X10_169 (fun _ h => h) rfl dX10_parse_60 63 rfl ?_
        show V p l e (rmL 5 0 0) s m args below meth cd Q 1 H8 lo8 0 0 63 [(0, .ref b)] [.int (zI ((ceS f (mo 0 8) po).1))]
        refine v_aload_n X dX10_parse_63 64 rfl 0 rfl ?_
        refine v_getf X hM.C h_mo.1 inX10 0 rfl rfl 8 (by decide) kf_X10_166 (fun _ h => h) rfl dX10_parse_64 67 rfl ?_
        show V p l e (rmL 5 0 0) s m args below meth cd Q 1 H8 lo8 0 0 67 [(0, .ref b)] [.int (zI (mo 0 8)), .int (zI ((ceS f (mo 0 8) po).1))]
        refine v_icmp_ge X (by omega) (by omega) dX10_parse_67 70 78 rfl (by decide) (fun c_16 => ?_) (fun c_16 => ?_)
        · skip
          subst hQ; exact m_vret X hr hlk hM dX10_parse_78 rfl ⟨((ceS f (mo 0 8) po).1), ((ceS f (mo 0 8) po).2), (si + 1), cm, rfl, (by first | exact fin_A hpo.1 (show paF f (mo 0 8) ((60 - i) + 1) po si pq = paF f (mo 0 8) 61 0 0 pr from by rw [← hpa, show 61 - i = (60 - i) + 1 by omega]) (by omega) | exact fin_B hpo.1 hpo.2 (show paF f (mo 0 8) ((60 - i) + 1) po si pq = paF f (mo 0 8) 61 0 0 pr from by rw [← hpa, show 61 - i = (60 - i) + 1 by omega]) (by omega) (by omega) hcm hcl | exact fin_C hpo.1 hpo.2 (show paF f (mo 0 8) ((60 - i) + 1) po si pq = paF f (mo 0 8) 61 0 0 pr from by rw [← hpa, show 61 - i = (60 - i) + 1 by omega]) (by omega) (by omega) (by omega)), h_mo⟩
        · skip
          refine v_aload_n X dX10_parse_70 71 rfl 0 rfl ?_
          refine v_aload_n X dX10_parse_71 72 rfl 0 rfl ?_
          refine v_getf X hM.C h_mo.1 inX10 0 rfl rfl 9 (by decide) kf_X10_169 (fun _ h => h) rfl dX10_parse_72 75 rfl ?_
          show V p l e (rmL 5 0 0) s m args below meth cd Q 1 H8 lo8 0 0 75 [(0, .ref b)] [.int (zI ((ceS f (mo 0 8) po).1)), .ref b]
          refine v_putf X hM h_mo ftX10 0 rfl rfl 10 (by decide) kf_X10_172 (fun _ h => h) rfl rfl rfl (Nat.le_of_ble_eq_true rfl) (Or.inl (fsH (by omega) (by omega))) dX10_parse_75 78 rfl (ws' := modelW E b (updC (updC mo 0 (updZ (updZ (updZ (mo 0) 9 ((ceS f (mo 0 8) po).1)) 10 ((ceS f (mo 0 8) po).1)) 15 (si + 1))) 4 cm)) rfl (fun H17 lo17 hzz hM hF h_mo => ?_)
          clear hzz
          subst hQ; exact m_vret X hr hlk hM dX10_parse_78 rfl ⟨((ceS f (mo 0 8) po).1), ((ceS f (mo 0 8) po).1), (si + 1), cm, rfl, (by first | exact fin_A hpo.1 (show paF f (mo 0 8) ((60 - i) + 1) po si pq = paF f (mo 0 8) 61 0 0 pr from by rw [← hpa, show 61 - i = (60 - i) + 1 by omega]) (by omega) | exact fin_B hpo.1 hpo.2 (show paF f (mo 0 8) ((60 - i) + 1) po si pq = paF f (mo 0 8) 61 0 0 pr from by rw [← hpa, show 61 - i = (60 - i) + 1 by omega]) (by omega) (by omega) hcm hcl | exact fin_C hpo.1 hpo.2 (show paF f (mo 0 8) ((60 - i) + 1) po si pq = paF f (mo 0 8) 61 0 0 pr from by rw [← hpa, show 61 - i = (60 - i) + 1 by omega]) (by omega) (by omega) (by omega)), h_mo⟩
    · skip
      have hlt := sgM_lt (g := mo 3) (n := mo 0 8) (h := (ceS f (mo 0 8) po).1) (by omega)
      have hkl := kkZ_len hce.1
      have hao := arP_ok hce.2.1
      have hcz := ceS_b (f := f) hpo.1 hpo.2
      dsimp only [inS] at hcz
      have hzm := sgM_Z (i := (ceS f (mo 0 8) po).1) hfg (by omega)
      have hpe : paE f (mo 0 8) po = arP f (mo 0 8) (po + fwZ f (mo 0 8) po (bkZ f (mo 0 8) po 7)) (kkZ f (mo 0 8) po) := rfl
      have hce3 := hce.2.2
      refine v_aload_n X dX10_parse_35 36 rfl 0 rfl ?_
      refine v_dup X dX10_parse_36 37 rfl rfl ?_
      refine v_getf X hM.C h_mo.1 inX10 0 rfl rfl 9 (by decide) kf_X10_169 (fun _ h => h) rfl dX10_parse_37 40 rfl ?_
      show V p l e (rmL 5 0 0) s m args below meth cd Q 1 H8 lo8 0 0 40 [(0, .ref b)] [.int (zI ((ceS f (mo 0 8) po).1)), .ref b]
      refine v_iconst X dX10_parse_40 41 rfl ?_
      refine v_iadd X dX10_parse_41 42 rfl ?_
      refine v_putf X hM h_mo ftX10 0 rfl rfl 9 (by decide) kf_X10_169 (fun _ h => h) rfl rfl rfl (Nat.le_of_ble_eq_true rfl) (Or.inl (fsH (by omega) (by omega))) dX10_parse_42 45 rfl (ws' := modelW E b (updC (updC mo 0 (updZ (updZ (updZ (mo 0) 9 ((ceS f (mo 0 8) po).1 + 1)) 10 ((ceS f (mo 0 8) po).2)) 15 (si + 1))) 4 cm)) rfl (fun H18 lo18 hzz hM hF h_mo => ?_)
      clear hzz
      refine v_aload_n X dX10_parse_45 46 rfl 0 rfl ?_
      refine v_muV X hM (h_mo.1) (c_X10_command l E b (updC (updC mo 0 (updZ (updZ (updZ (mo 0) 9 ((ceS f (mo 0 8) po).1 + 1)) 10 ((ceS f (mo 0 8) po).2)) 15 (si + 1))) 4 cm) f (paC f (mo 0 8) po si pq) ((ceS f (mo 0 8) po).1 + 1) (si + 1) hcr hn hfg (by first | rfl | assumption) (show ((ceS f (mo 0 8) po).2) = -1 from (by first | rfl | assumption | omega)) (by omega) (show ((ceS f (mo 0 8) po).1 + 1) ≤ mo 0 8 from (by omega)) (show (si + 1) = (si + 1) from (by omega)) (by omega) (by omega)) kvX10_command kiX10_command kl_X10_200 (q0 := 0) rfl rfl (As := []) rfl rfl rfl dX10_parse_46 49 rfl (k' := 0) (n' := 0) rfl rfl (fsI (fun q q1 q2 => (Or.inl (fsH (by omega) (by omega))))) h_mo (fun rv H19 lo19 hM hF hpo => ?_)
      obtain ⟨q4_20, rfl, hp_f_21, hp_f_22, hw_0⟩ := hpo
      have h_mo : PR E b (modelW E b (updC (updC mo 0 (updZ (updZ (updZ (mo 0) 9 ((ceS f (mo 0 8) ((ceS f (mo 0 8) po).1 + 1)).1)) 10 ((ceS f (mo 0 8) ((ceS f (mo 0 8) po).1 + 1)).2)) 15 ((si + 1) + 1))) 4 q4_20)) H19 := hw_0
      show V p l e (rmL 5 0 0) s m args below meth cd Q 1 H19 lo19 0 0 49 [(0, .ref b)] []
      refine v_goto X dX10_parse_49 19 (by decide) ?_
      exact V_L (L' := [(0, .ref b)]) (LC rfl rfl) (ih_i (by omega) ((ceS f (mo 0 8) po).1 + 1) (si + 1) (paC f (mo 0 8) po si pq) q4_20 (by rw [← hpa, show 61 - i = (60 - i) + 1 by omega, paF_4 hce.1 hce.2.1 (by rw [← hce3.1]; omega) (by rw [← hce3.1]; omega), show 61 - (i + 1) = 60 - i by omega, hce3.1]) (by omega) (by omega) (nxt_cm hcm (hcl hce.1 hce.2.1) hp_f_22) hp_f_21 _ _ hM h_mo)
