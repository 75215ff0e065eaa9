/-- the place and the error behind a command -/
def ceS (f : Int → Int) (n po : Int) : Int × Int := if kkZ f n po = -1 then (po + fwZ f n po (bkZ f n po 7), po + fwZ f n po (bkZ f n po 7)) else fnS (arQ f n (po + fwZ f n po (bkZ f n po 7)) (kkZ f n po)) (paE f n po)
def kcd (k : Int) : Int := if k = 0 then 99 else if k = 1 then 119 else if k = 2 then 116 else if k = 3 then 113 else if k = 4 then 100 else if k = 5 then 97 else 108
/-- a command as both keep it -/
def CmR (pq : Nat → Int → Int) (cm : Int → Int) (k : Int) : Prop := cm (5 * k) = kcd (pq 1 k) ∧ cm (5 * k + 1) = pq 2 k ∧ (pq 1 k = 0 ∨ pq 1 k = 2 ∨ pq 1 k = 3 → cm (5 * k + 2) = pq 3 k) ∧ (pq 1 k = 2 ∨ pq 1 k = 3 → cm (5 * k + 3) = pq 4 k) ∧ (pq 1 k = 2 → cm (5 * k + 4) = pq 5 k)
theorem nuG_at {f : Int → Int} {n p si : Int} {gt : Int → Int} (h : dgt (sgZ f n p)) : nuG f n p si gt si = nuV f n p := by
  unfold nuG nuV
  rw [if_pos h]
  by_cases q : dgt (sgZ f n (p + 1))
  · rw [if_pos q, if_pos q, updZ_at, updZ_at, updZ_at]
    omega
  · rw [if_neg q, if_neg q, updZ_at]
theorem dgG_at {f : Int → Int} {n p si : Int} {gt : Int → Int} (h : dgt (sgZ f n p)) : dgG f n p si gt si = sgZ f n p - 48 := by
  unfold dgG
  rw [if_pos h, updZ_at]
theorem chG_at {f : Int → Int} {n p si : Int} {gt : Int → Int} (h : chQ f n p) : chG f n p si gt si = sgZ f n (p + 1 + 1) - 48 := by
  unfold chG
  rw [if_pos h.1, if_pos h.2.1, if_pos h.2.2, updZ_at]
theorem cwG_at {f : Int → Int} {n p si : Int} {gt : Int → Int} (h : cwQ f n p) : cwG f n p si gt si = sgZ f n (nuP f n p + 1) - 48 := by
  unfold cwG
  rw [if_pos h.1, if_pos h.2.1, if_pos h.2.2, updZ_at]
theorem flG_at {f : Int → Int} {n p si c : Int} {gt : Int → Int} (h : cwQ f n p) : flG f n p si c gt si = if sgZ f n (cwP f n p) = c then 1 else 0 := by
  unfold flG
  rw [if_pos h, updZ_at]
theorem teG_at {f : Int → Int} {n p si : Int} {gt : Int → Int} (h : teQ f n p) : teG f n p si gt si = sgZ f n (cwP f n p + 1) - 48 := by
  unfold teG
  rw [if_pos h.1, if_pos h.2.1, if_pos h.2.2, updZ_at]
theorem cmd_c {f g cm0 : Int → Int} {n si : Int} {pr : Nat → Int → Int} {sp : Int × Int} (h2 : sp.2 = -1) (hp : 0 ≤ sp.1) (hfg : AgR f g n) (h1 : sgM g n sp.1 = 99) (hl : ¬ sgM g n (sp.1 + 1) = 108) : (nm g n (nd g n ((nm g n (nd g n (nd g n (nd g n (nd g n (nd g n (nd g n (sp.1 + 1, sp.2) 104) 97) 114) 103) 101) 32) 1).2) 32) 1).2 = ceS f n sp.1 ∧ (¬ kkZ f n sp.1 = -1 → arQ f n (sp.1 + fwZ f n sp.1 (bkZ f n sp.1 7)) (kkZ f n sp.1) → CmR (paC f n sp.1 si pr) (updZ (updZ (updZ (clB cm0 (5 * si) 5) (5 * si) 99) (5 * si + 1) (nm g n (nd g n (nd g n (nd g n (nd g n (nd g n (nd g n (sp.1 + 1, sp.2) 104) 97) 114) 103) 101) 32) 1).1) (5 * si + 2) (nm g n (nd g n ((nm g n (nd g n (nd g n (nd g n (nd g n (nd g n (nd g n (sp.1 + 1, sp.2) 104) 97) 114) 103) 101) 32) 1).2) 32) 1).1) si) := by
  obtain ⟨po, e⟩ := sp
  dsimp only at h2 hp h1 hl ⊢
  subst h2
  have hM := sgM_Z hfg hp
  have hZ : sgZ f n po = 99 := by omega
  obtain ⟨k0, k1, k2, k3, k4, k5, k6, k01, k61⟩ := kwF
  have e0 := fw_1 (f := f) (n := n) (po := po) (q := 0) (by decide)
  rw [hZ, k0] at e0
  have b0 := fwZ_b f n po (q := 0) (by decide)
  have e1 := fw_1 (f := f) (n := n) (po := po) (q := 1) (by decide)
  rw [hZ, k1] at e1
  have b1 := fwZ_b f n po (q := 1) (by decide)
  have e2 := fw_1 (f := f) (n := n) (po := po) (q := 2) (by decide)
  rw [hZ, k2] at e2
  have b2 := fwZ_b f n po (q := 2) (by decide)
  have e3 := fw_1 (f := f) (n := n) (po := po) (q := 3) (by decide)
  rw [hZ, k3] at e3
  have b3 := fwZ_b f n po (q := 3) (by decide)
  have e4 := fw_1 (f := f) (n := n) (po := po) (q := 4) (by decide)
  rw [hZ, k4] at e4
  have b4 := fwZ_b f n po (q := 4) (by decide)
  have e5 := fw_1 (f := f) (n := n) (po := po) (q := 5) (by decide)
  rw [hZ, k5] at e5
  have b5 := fwZ_b f n po (q := 5) (by decide)
  have e6 := fw_1 (f := f) (n := n) (po := po) (q := 6) (by decide)
  rw [hZ, k6] at e6
  have b6 := fwZ_b f n po (q := 6) (by decide)
  have hM1 := sgM_Z (f := f) (g := g) (n := n) (i := po + 1) hfg (by omega)
  have y0 := fw_2 (f := f) (n := n) (po := po) (q := 0) (by decide)
  have y6 := fw_2 (f := f) (n := n) (po := po) (q := 6) (by decide)
  rw [k01] at y0
  rw [k61] at y6
  have hbk : bkZ f n po 7 = 0 := by
    have c0 : bkZ f n po 0 = 0 := rfl
    have c1 : bkZ f n po 1 = 0 := by rw [bkZ_s, c0, if_neg (by omega)]
    have c2 : bkZ f n po 2 = 0 := by rw [bkZ_s, c1, if_neg (by omega)]
    have c3 : bkZ f n po 3 = 0 := by rw [bkZ_s, c2, if_neg (by omega)]
    have c4 : bkZ f n po 4 = 0 := by rw [bkZ_s, c3, if_neg (by omega)]
    have c5 : bkZ f n po 5 = 0 := by rw [bkZ_s, c4, if_neg (by omega)]
    have c6 : bkZ f n po 6 = 0 := by rw [bkZ_s, c5, if_neg (by omega)]
    have c7 : bkZ f n po 7 = 0 := by rw [bkZ_s, c6, if_neg (by omega)]
    exact c7
  have hlen : kwLen 0 = 7 := by decide +kernel
  have hkk : kkZ f n po = if fwZ f n po 0 = 7 then 0 else -1 := by
    unfold kkZ
    rw [hbk, hlen]
    rfl
  have key : ∀ m : Fin 6, ∀ c : Int, ([104, 97, 114, 103, 101, 32] : List Int)[(m : Nat)]? = some c → c = kwZ 0 (1 + ((m : Nat) : Int)) ∧ 0 < c := by
    intro m c hc
    have kk : ∀ m : Fin 6, ([104, 97, 114, 103, 101, 32] : List Int)[(m : Nat)]? = some (kwZ 0 (1 + ((m : Nat) : Int))) ∧ 0 < kwZ 0 (1 + ((m : Nat) : Int)) := by decide +kernel
    have h := kk m
    rw [h.1] at hc
    have hc := Option.some.inj hc
    exact ⟨hc.symm, by rw [← hc]; exact h.2⟩
  have hrun := ndL_run (q := 0) (by decide) hfg hp [104, 97, 114, 103, 101, 32] 1 (by decide) (by omega) (by rw [hlen]; decide) (fun m c hc => by
    have hm : m < 6 := (List.getElem?_eq_some_iff.mp hc).1
    exact key ⟨m, hm⟩ c hc)
  have hnest : ndL g n (po + 1, -1) [104, 97, 114, 103, 101, 32] = nd g n (nd g n (nd g n (nd g n (nd g n (nd g n (po + 1, -1) 104) 97) 114) 103) 101) 32 := rfl
  rw [hnest] at hrun
  have hll : (([104, 97, 114, 103, 101, 32] : List Int).length : Int) = 6 := rfl
  rw [hll] at hrun
  by_cases hF : fwZ f n po 0 = 7
  · rw [if_pos (by omega), show po + (1 + 6) = po + 7 by omega] at hrun
    have hkk2 : kkZ f n po = 0 := by rw [hkk, if_pos hF]
    rw [hrun]
    obtain ⟨a1, a2⟩ := arg_ch (f := f) (g := g) (n := n) (p := po + 7) hfg (by omega)
    have hiq : chQ f n (po + 7) ↔ arQ f n (po + 7) 0 := by simp [arQ, dgt]
    refine ⟨?_, fun _ hq => ?_⟩
    · rw [a1]
      unfold ceS
      rw [if_neg (by omega)]
      unfold paE
      rw [hbk, hF, hkk2]
      exact fnS_c hiq (by simp [arP])
    · rw [hbk, hF, hkk2] at hq
      have hQ := hiq.mpr hq
      have hv := a2 hQ
      have r1 : paC f n po si pr 1 si = 0 := by
        show updZ _ si (kkZ f n po) si = _
        rw [updZ_at, hkk2]
      have r2 : paC f n po si pr 2 si = sgZ f n (po + 7) - 48 := by
        show arC f n (po + fwZ f n po (bkZ f n po 7)) si (kkZ f n po) pr 2 si = _
        rw [hbk, hF, hkk2]
        show dgG f n (po + 7) si (pr 2) si = _
        exact dgG_at hQ.1
      have r3 : paC f n po si pr 3 si = sgZ f n (po + 7 + 1 + 1) - 48 := by
        show arC f n (po + fwZ f n po (bkZ f n po 7)) si (kkZ f n po) pr 3 si = _
        rw [hbk, hF, hkk2]
        show chG f n (po + 7) si (pr 3) si = _
        exact chG_at hQ
      unfold CmR
      rw [r1, r2, r3]
      refine ⟨?_, ?_, fun z => ?_, fun z => ?_, fun z => ?_⟩
      · rw [updZ_ne _ _ (by omega), updZ_ne _ _ (by omega), updZ_at]; rfl
      · rw [updZ_ne _ _ (by omega), updZ_at]
        exact hv.1
      · rw [updZ_at]
        exact hv.2
      · exfalso; omega
      · exfalso; omega
  · rw [if_neg (by omega)] at hrun
    have hkk2 : kkZ f n po = -1 := by rw [hkk, if_neg hF]
    have hpos : 0 ≤ po + fwZ f n po 0 := by omega
    refine ⟨?_, fun z => absurd hkk2 z⟩
    rw [hrun]
    rw [nmx_e (show 0 ≤ ((po + fwZ f n po 0, po + fwZ f n po 0) : Int × Int).2 from hpos)]
    rw [nd_e (show 0 ≤ ((po + fwZ f n po 0, po + fwZ f n po 0) : Int × Int).2 from hpos)]
    rw [nmx_e (show 0 ≤ ((po + fwZ f n po 0, po + fwZ f n po 0) : Int × Int).2 from hpos)]
    unfold ceS
    rw [if_pos hkk2, hbk]
theorem cmd_w {f g cm0 : Int → Int} {n si : Int} {pr : Nat → Int → Int} {sp : Int × Int} (h2 : sp.2 = -1) (hp : 0 ≤ sp.1) (hfg : AgR f g n) (h1 : sgM g n sp.1 = 119) : (nm g n (nd g n (nd g n (nd g n (nd g n (nd g n (nd g n (nd g n (sp.1 + 1, sp.2) 105) 116) 110) 101) 115) 115) 32) 1).2 = ceS f n sp.1 ∧ (¬ kkZ f n sp.1 = -1 → arQ f n (sp.1 + fwZ f n sp.1 (bkZ f n sp.1 7)) (kkZ f n sp.1) → CmR (paC f n sp.1 si pr) (updZ (updZ (clB cm0 (5 * si) 5) (5 * si) 119) (5 * si + 1) (nm g n (nd g n (nd g n (nd g n (nd g n (nd g n (nd g n (nd g n (sp.1 + 1, sp.2) 105) 116) 110) 101) 115) 115) 32) 1).1) si) := by
  obtain ⟨po, e⟩ := sp
  dsimp only at h2 hp h1 ⊢
  subst h2
  have hM := sgM_Z hfg hp
  have hZ : sgZ f n po = 119 := by omega
  obtain ⟨k0, k1, k2, k3, k4, k5, k6, k01, k61⟩ := kwF
  have e0 := fw_1 (f := f) (n := n) (po := po) (q := 0) (by decide)
  rw [hZ, k0] at e0
  have b0 := fwZ_b f n po (q := 0) (by decide)
  have e1 := fw_1 (f := f) (n := n) (po := po) (q := 1) (by decide)
  rw [hZ, k1] at e1
  have b1 := fwZ_b f n po (q := 1) (by decide)
  have e2 := fw_1 (f := f) (n := n) (po := po) (q := 2) (by decide)
  rw [hZ, k2] at e2
  have b2 := fwZ_b f n po (q := 2) (by decide)
  have e3 := fw_1 (f := f) (n := n) (po := po) (q := 3) (by decide)
  rw [hZ, k3] at e3
  have b3 := fwZ_b f n po (q := 3) (by decide)
  have e4 := fw_1 (f := f) (n := n) (po := po) (q := 4) (by decide)
  rw [hZ, k4] at e4
  have b4 := fwZ_b f n po (q := 4) (by decide)
  have e5 := fw_1 (f := f) (n := n) (po := po) (q := 5) (by decide)
  rw [hZ, k5] at e5
  have b5 := fwZ_b f n po (q := 5) (by decide)
  have e6 := fw_1 (f := f) (n := n) (po := po) (q := 6) (by decide)
  rw [hZ, k6] at e6
  have b6 := fwZ_b f n po (q := 6) (by decide)
  have hbk : bkZ f n po 7 = 1 := by
    have c0 : bkZ f n po 0 = 0 := rfl
    have c1 : bkZ f n po 1 = 0 := by rw [bkZ_s, c0, if_neg (by omega)]
    have c2 : bkZ f n po 2 = 1 := by rw [bkZ_s, c1, if_pos (by omega)]
    have c3 : bkZ f n po 3 = 1 := by rw [bkZ_s, c2, if_neg (by omega)]
    have c4 : bkZ f n po 4 = 1 := by rw [bkZ_s, c3, if_neg (by omega)]
    have c5 : bkZ f n po 5 = 1 := by rw [bkZ_s, c4, if_neg (by omega)]
    have c6 : bkZ f n po 6 = 1 := by rw [bkZ_s, c5, if_neg (by omega)]
    have c7 : bkZ f n po 7 = 1 := by rw [bkZ_s, c6, if_neg (by omega)]
    exact c7
  have hlen : kwLen 1 = 8 := by decide +kernel
  have hkk : kkZ f n po = if fwZ f n po 1 = 8 then 1 else -1 := by
    unfold kkZ
    rw [hbk, hlen]
    rfl
  have key : ∀ m : Fin 7, ∀ c : Int, ([105, 116, 110, 101, 115, 115, 32] : List Int)[(m : Nat)]? = some c → c = kwZ 1 (1 + ((m : Nat) : Int)) ∧ 0 < c := by
    intro m c hc
    have kk : ∀ m : Fin 7, ([105, 116, 110, 101, 115, 115, 32] : List Int)[(m : Nat)]? = some (kwZ 1 (1 + ((m : Nat) : Int))) ∧ 0 < kwZ 1 (1 + ((m : Nat) : Int)) := by decide +kernel
    have h := kk m
    rw [h.1] at hc
    have hc := Option.some.inj hc
    exact ⟨hc.symm, by rw [← hc]; exact h.2⟩
  have hrun := ndL_run (q := 1) (by decide) hfg hp [105, 116, 110, 101, 115, 115, 32] 1 (by decide) (by omega) (by rw [hlen]; decide) (fun m c hc => by
    have hm : m < 7 := (List.getElem?_eq_some_iff.mp hc).1
    exact key ⟨m, hm⟩ c hc)
  have hnest : ndL g n (po + 1, -1) [105, 116, 110, 101, 115, 115, 32] = nd g n (nd g n (nd g n (nd g n (nd g n (nd g n (nd g n (po + 1, -1) 105) 116) 110) 101) 115) 115) 32 := rfl
  rw [hnest] at hrun
  have hll : (([105, 116, 110, 101, 115, 115, 32] : List Int).length : Int) = 7 := rfl
  rw [hll] at hrun
  by_cases hF : fwZ f n po 1 = 8
  · rw [if_pos (by omega), show po + (1 + 7) = po + 8 by omega] at hrun
    have hkk2 : kkZ f n po = 1 := by rw [hkk, if_pos hF]
    rw [hrun]
    obtain ⟨a1, a2⟩ := arg_d (f := f) (g := g) (n := n) (p := po + 8) hfg (by omega)
    have hiq : dgt (sgZ f n (po + 8)) ↔ arQ f n (po + 8) 1 := by simp [arQ, dgt]
    refine ⟨?_, fun _ hq => ?_⟩
    · rw [a1]
      unfold ceS
      rw [if_neg (by omega)]
      unfold paE
      rw [hbk, hF, hkk2]
      exact fnS_c hiq (by simp [arP])
    · rw [hbk, hF, hkk2] at hq
      have hQ := hiq.mpr hq
      have hv := a2 hQ
      have r1 : paC f n po si pr 1 si = 1 := by
        show updZ _ si (kkZ f n po) si = _
        rw [updZ_at, hkk2]
      have r2 : paC f n po si pr 2 si = sgZ f n (po + 8) - 48 := by
        show arC f n (po + fwZ f n po (bkZ f n po 7)) si (kkZ f n po) pr 2 si = _
        rw [hbk, hF, hkk2]
        show dgG f n (po + 8) si (pr 2) si = _
        exact dgG_at hQ
      unfold CmR
      rw [r1, r2]
      refine ⟨?_, ?_, fun z => ?_, fun z => ?_, fun z => ?_⟩
      · rw [updZ_ne _ _ (by omega), updZ_at]; rfl
      · rw [updZ_at]
        exact hv
      · exfalso; omega
      · exfalso; omega
      · exfalso; omega
  · rw [if_neg (by omega)] at hrun
    have hkk2 : kkZ f n po = -1 := by rw [hkk, if_neg hF]
    have hpos : 0 ≤ po + fwZ f n po 1 := by omega
    refine ⟨?_, fun z => absurd hkk2 z⟩
    rw [hrun]
    rw [nmx_e (show 0 ≤ ((po + fwZ f n po 1, po + fwZ f n po 1) : Int × Int).2 from hpos)]
    unfold ceS
    rw [if_pos hkk2, hbk]
theorem cmd_t {f g cm0 : Int → Int} {n si : Int} {pr : Nat → Int → Int} {sp : Int × Int} (h2 : sp.2 = -1) (hp : 0 ≤ sp.1) (hfg : AgR f g n) (h1 : sgM g n sp.1 = 116) : (nm g n ((ei g n ((nm g n (nd g n ((nm g n (nd g n (nd g n (nd g n (nd g n (nd g n (nd g n (nd g n (sp.1 + 1, sp.2) 101) 115) 116) 105) 102) 121) 32) 2).2) 32) 1).2) 43 45).2) 1).2 = ceS f n sp.1 ∧ (¬ kkZ f n sp.1 = -1 → arQ f n (sp.1 + fwZ f n sp.1 (bkZ f n sp.1 7)) (kkZ f n sp.1) → CmR (paC f n sp.1 si pr) (updZ (updZ (updZ (updZ (updZ (clB cm0 (5 * si) 5) (5 * si) 116) (5 * si + 1) (nm g n (nd g n (nd g n (nd g n (nd g n (nd g n (nd g n (nd g n (sp.1 + 1, sp.2) 101) 115) 116) 105) 102) 121) 32) 2).1) (5 * si + 2) (nm g n (nd g n ((nm g n (nd g n (nd g n (nd g n (nd g n (nd g n (nd g n (nd g n (sp.1 + 1, sp.2) 101) 115) 116) 105) 102) 121) 32) 2).2) 32) 1).1) (5 * si + 3) (ei g n ((nm g n (nd g n ((nm g n (nd g n (nd g n (nd g n (nd g n (nd g n (nd g n (nd g n (sp.1 + 1, sp.2) 101) 115) 116) 105) 102) 121) 32) 2).2) 32) 1).2) 43 45).1) (5 * si + 4) (nm g n ((ei g n ((nm g n (nd g n ((nm g n (nd g n (nd g n (nd g n (nd g n (nd g n (nd g n (nd g n (sp.1 + 1, sp.2) 101) 115) 116) 105) 102) 121) 32) 2).2) 32) 1).2) 43 45).2) 1).1) si) := by
  obtain ⟨po, e⟩ := sp
  dsimp only at h2 hp h1 ⊢
  subst h2
  have hM := sgM_Z hfg hp
  have hZ : sgZ f n po = 116 := by omega
  obtain ⟨k0, k1, k2, k3, k4, k5, k6, k01, k61⟩ := kwF
  have e0 := fw_1 (f := f) (n := n) (po := po) (q := 0) (by decide)
  rw [hZ, k0] at e0
  have b0 := fwZ_b f n po (q := 0) (by decide)
  have e1 := fw_1 (f := f) (n := n) (po := po) (q := 1) (by decide)
  rw [hZ, k1] at e1
  have b1 := fwZ_b f n po (q := 1) (by decide)
  have e2 := fw_1 (f := f) (n := n) (po := po) (q := 2) (by decide)
  rw [hZ, k2] at e2
  have b2 := fwZ_b f n po (q := 2) (by decide)
  have e3 := fw_1 (f := f) (n := n) (po := po) (q := 3) (by decide)
  rw [hZ, k3] at e3
  have b3 := fwZ_b f n po (q := 3) (by decide)
  have e4 := fw_1 (f := f) (n := n) (po := po) (q := 4) (by decide)
  rw [hZ, k4] at e4
  have b4 := fwZ_b f n po (q := 4) (by decide)
  have e5 := fw_1 (f := f) (n := n) (po := po) (q := 5) (by decide)
  rw [hZ, k5] at e5
  have b5 := fwZ_b f n po (q := 5) (by decide)
  have e6 := fw_1 (f := f) (n := n) (po := po) (q := 6) (by decide)
  rw [hZ, k6] at e6
  have b6 := fwZ_b f n po (q := 6) (by decide)
  have hbk : bkZ f n po 7 = 2 := by
    have c0 : bkZ f n po 0 = 0 := rfl
    have c1 : bkZ f n po 1 = 0 := by rw [bkZ_s, c0, if_neg (by omega)]
    have c2 : bkZ f n po 2 = 0 := by rw [bkZ_s, c1, if_neg (by omega)]
    have c3 : bkZ f n po 3 = 2 := by rw [bkZ_s, c2, if_pos (by omega)]
    have c4 : bkZ f n po 4 = 2 := by rw [bkZ_s, c3, if_neg (by omega)]
    have c5 : bkZ f n po 5 = 2 := by rw [bkZ_s, c4, if_neg (by omega)]
    have c6 : bkZ f n po 6 = 2 := by rw [bkZ_s, c5, if_neg (by omega)]
    have c7 : bkZ f n po 7 = 2 := by rw [bkZ_s, c6, if_neg (by omega)]
    exact c7
  have hlen : kwLen 2 = 8 := by decide +kernel
  have hkk : kkZ f n po = if fwZ f n po 2 = 8 then 2 else -1 := by
    unfold kkZ
    rw [hbk, hlen]
    rfl
  have key : ∀ m : Fin 7, ∀ c : Int, ([101, 115, 116, 105, 102, 121, 32] : List Int)[(m : Nat)]? = some c → c = kwZ 2 (1 + ((m : Nat) : Int)) ∧ 0 < c := by
    intro m c hc
    have kk : ∀ m : Fin 7, ([101, 115, 116, 105, 102, 121, 32] : List Int)[(m : Nat)]? = some (kwZ 2 (1 + ((m : Nat) : Int))) ∧ 0 < kwZ 2 (1 + ((m : Nat) : Int)) := by decide +kernel
    have h := kk m
    rw [h.1] at hc
    have hc := Option.some.inj hc
    exact ⟨hc.symm, by rw [← hc]; exact h.2⟩
  have hrun := ndL_run (q := 2) (by decide) hfg hp [101, 115, 116, 105, 102, 121, 32] 1 (by decide) (by omega) (by rw [hlen]; decide) (fun m c hc => by
    have hm : m < 7 := (List.getElem?_eq_some_iff.mp hc).1
    exact key ⟨m, hm⟩ c hc)
  have hnest : ndL g n (po + 1, -1) [101, 115, 116, 105, 102, 121, 32] = nd g n (nd g n (nd g n (nd g n (nd g n (nd g n (nd g n (po + 1, -1) 101) 115) 116) 105) 102) 121) 32 := rfl
  rw [hnest] at hrun
  have hll : (([101, 115, 116, 105, 102, 121, 32] : List Int).length : Int) = 7 := rfl
  rw [hll] at hrun
  by_cases hF : fwZ f n po 2 = 8
  · rw [if_pos (by omega), show po + (1 + 7) = po + 8 by omega] at hrun
    have hkk2 : kkZ f n po = 2 := by rw [hkk, if_pos hF]
    rw [hrun]
    obtain ⟨a1, a2⟩ := arg_te (f := f) (g := g) (n := n) (p := po + 8) hfg (by omega)
    have hiq : teQ f n (po + 8) ↔ arQ f n (po + 8) 2 := by simp [arQ, dgt]
    refine ⟨?_, fun _ hq => ?_⟩
    · rw [a1]
      unfold ceS
      rw [if_neg (by omega)]
      unfold paE
      rw [hbk, hF, hkk2]
      exact fnS_c hiq (by simp [arP])
    · rw [hbk, hF, hkk2] at hq
      have hQ := hiq.mpr hq
      have hv := a2 hQ
      have r1 : paC f n po si pr 1 si = 2 := by
        show updZ _ si (kkZ f n po) si = _
        rw [updZ_at, hkk2]
      have r2 : paC f n po si pr 2 si = nuV f n (po + 8) := by
        show arC f n (po + fwZ f n po (bkZ f n po 7)) si (kkZ f n po) pr 2 si = _
        rw [hbk, hF, hkk2]
        show nuG f n (po + 8) si (pr 2) si = _
        exact nuG_at hQ.1.1
      have r3 : paC f n po si pr 3 si = sgZ f n (nuP f n (po + 8) + 1) - 48 := by
        show arC f n (po + fwZ f n po (bkZ f n po 7)) si (kkZ f n po) pr 3 si = _
        rw [hbk, hF, hkk2]
        show cwG f n (po + 8) si (pr 3) si = _
        exact cwG_at hQ.1
      have r4 : paC f n po si pr 4 si = if sgZ f n (cwP f n (po + 8)) = 43 then 1 else 0 := by
        show arC f n (po + fwZ f n po (bkZ f n po 7)) si (kkZ f n po) pr 4 si = _
        rw [hbk, hF, hkk2]
        show flG f n (po + 8) si 43 (pr 4) si = _
        exact flG_at hQ.1
      have r5 : paC f n po si pr 5 si = sgZ f n (cwP f n (po + 8) + 1) - 48 := by
        show arC f n (po + fwZ f n po (bkZ f n po 7)) si (kkZ f n po) pr 5 si = _
        rw [hbk, hF, hkk2]
        show teG f n (po + 8) si (pr 5) si = _
        exact teG_at hQ
      unfold CmR
      rw [r1, r2, r3, r4, r5]
      refine ⟨?_, ?_, fun z => ?_, fun z => ?_, fun z => ?_⟩
      · rw [updZ_ne _ _ (by omega), updZ_ne _ _ (by omega), updZ_ne _ _ (by omega), updZ_ne _ _ (by omega), updZ_at]; rfl
      · rw [updZ_ne _ _ (by omega), updZ_ne _ _ (by omega), updZ_ne _ _ (by omega), updZ_at]
        exact hv.1
      · rw [updZ_ne _ _ (by omega), updZ_ne _ _ (by omega), updZ_at]
        exact hv.2.1
      · rw [updZ_ne _ _ (by omega), updZ_at]
        exact hv.2.2.1
      · rw [updZ_at]
        exact hv.2.2.2
  · rw [if_neg (by omega)] at hrun
    have hkk2 : kkZ f n po = -1 := by rw [hkk, if_neg hF]
    have hpos : 0 ≤ po + fwZ f n po 2 := by omega
    refine ⟨?_, fun z => absurd hkk2 z⟩
    rw [hrun]
    rw [nmx_e (show 0 ≤ ((po + fwZ f n po 2, po + fwZ f n po 2) : Int × Int).2 from hpos)]
    rw [nd_e (show 0 ≤ ((po + fwZ f n po 2, po + fwZ f n po 2) : Int × Int).2 from hpos)]
    rw [nmx_e (show 0 ≤ ((po + fwZ f n po 2, po + fwZ f n po 2) : Int × Int).2 from hpos)]
    rw [ei_e (show 0 ≤ ((po + fwZ f n po 2, po + fwZ f n po 2) : Int × Int).2 from hpos)]
    rw [nmx_e (show 0 ≤ ((po + fwZ f n po 2, po + fwZ f n po 2) : Int × Int).2 from hpos)]
    unfold ceS
    rw [if_pos hkk2, hbk]
theorem cmd_q {f g cm0 : Int → Int} {n si : Int} {pr : Nat → Int → Int} {sp : Int × Int} (h2 : sp.2 = -1) (hp : 0 ≤ sp.1) (hfg : AgR f g n) (h1 : sgM g n sp.1 = 113) : (ei g n ((nm g n (nd g n ((nm g n (nd g n (nd g n (nd g n (nd g n (nd g n (nd g n (nd g n (nd g n (sp.1 + 1, sp.2) 117) 101) 115) 116) 105) 111) 110) 32) 2).2) 32) 1).2) 33 63).2 = ceS f n sp.1 ∧ (¬ kkZ f n sp.1 = -1 → arQ f n (sp.1 + fwZ f n sp.1 (bkZ f n sp.1 7)) (kkZ f n sp.1) → CmR (paC f n sp.1 si pr) (updZ (updZ (updZ (updZ (clB cm0 (5 * si) 5) (5 * si) 113) (5 * si + 1) (nm g n (nd g n (nd g n (nd g n (nd g n (nd g n (nd g n (nd g n (nd g n (sp.1 + 1, sp.2) 117) 101) 115) 116) 105) 111) 110) 32) 2).1) (5 * si + 2) (nm g n (nd g n ((nm g n (nd g n (nd g n (nd g n (nd g n (nd g n (nd g n (nd g n (nd g n (sp.1 + 1, sp.2) 117) 101) 115) 116) 105) 111) 110) 32) 2).2) 32) 1).1) (5 * si + 3) (ei g n ((nm g n (nd g n ((nm g n (nd g n (nd g n (nd g n (nd g n (nd g n (nd g n (nd g n (nd g n (sp.1 + 1, sp.2) 117) 101) 115) 116) 105) 111) 110) 32) 2).2) 32) 1).2) 33 63).1) si) := by
  obtain ⟨po, e⟩ := sp
  dsimp only at h2 hp h1 ⊢
  subst h2
  have hM := sgM_Z hfg hp
  have hZ : sgZ f n po = 113 := by omega
  obtain ⟨k0, k1, k2, k3, k4, k5, k6, k01, k61⟩ := kwF
  have e0 := fw_1 (f := f) (n := n) (po := po) (q := 0) (by decide)
  rw [hZ, k0] at e0
  have b0 := fwZ_b f n po (q := 0) (by decide)
  have e1 := fw_1 (f := f) (n := n) (po := po) (q := 1) (by decide)
  rw [hZ, k1] at e1
  have b1 := fwZ_b f n po (q := 1) (by decide)
  have e2 := fw_1 (f := f) (n := n) (po := po) (q := 2) (by decide)
  rw [hZ, k2] at e2
  have b2 := fwZ_b f n po (q := 2) (by decide)
  have e3 := fw_1 (f := f) (n := n) (po := po) (q := 3) (by decide)
  rw [hZ, k3] at e3
  have b3 := fwZ_b f n po (q := 3) (by decide)
  have e4 := fw_1 (f := f) (n := n) (po := po) (q := 4) (by decide)
  rw [hZ, k4] at e4
  have b4 := fwZ_b f n po (q := 4) (by decide)
  have e5 := fw_1 (f := f) (n := n) (po := po) (q := 5) (by decide)
  rw [hZ, k5] at e5
  have b5 := fwZ_b f n po (q := 5) (by decide)
  have e6 := fw_1 (f := f) (n := n) (po := po) (q := 6) (by decide)
  rw [hZ, k6] at e6
  have b6 := fwZ_b f n po (q := 6) (by decide)
  have hbk : bkZ f n po 7 = 3 := by
    have c0 : bkZ f n po 0 = 0 := rfl
    have c1 : bkZ f n po 1 = 0 := by rw [bkZ_s, c0, if_neg (by omega)]
    have c2 : bkZ f n po 2 = 0 := by rw [bkZ_s, c1, if_neg (by omega)]
    have c3 : bkZ f n po 3 = 0 := by rw [bkZ_s, c2, if_neg (by omega)]
    have c4 : bkZ f n po 4 = 3 := by rw [bkZ_s, c3, if_pos (by omega)]
    have c5 : bkZ f n po 5 = 3 := by rw [bkZ_s, c4, if_neg (by omega)]
    have c6 : bkZ f n po 6 = 3 := by rw [bkZ_s, c5, if_neg (by omega)]
    have c7 : bkZ f n po 7 = 3 := by rw [bkZ_s, c6, if_neg (by omega)]
    exact c7
  have hlen : kwLen 3 = 9 := by decide +kernel
  have hkk : kkZ f n po = if fwZ f n po 3 = 9 then 3 else -1 := by
    unfold kkZ
    rw [hbk, hlen]
    rfl
  have key : ∀ m : Fin 8, ∀ c : Int, ([117, 101, 115, 116, 105, 111, 110, 32] : List Int)[(m : Nat)]? = some c → c = kwZ 3 (1 + ((m : Nat) : Int)) ∧ 0 < c := by
    intro m c hc
    have kk : ∀ m : Fin 8, ([117, 101, 115, 116, 105, 111, 110, 32] : List Int)[(m : Nat)]? = some (kwZ 3 (1 + ((m : Nat) : Int))) ∧ 0 < kwZ 3 (1 + ((m : Nat) : Int)) := by decide +kernel
    have h := kk m
    rw [h.1] at hc
    have hc := Option.some.inj hc
    exact ⟨hc.symm, by rw [← hc]; exact h.2⟩
  have hrun := ndL_run (q := 3) (by decide) hfg hp [117, 101, 115, 116, 105, 111, 110, 32] 1 (by decide) (by omega) (by rw [hlen]; decide) (fun m c hc => by
    have hm : m < 8 := (List.getElem?_eq_some_iff.mp hc).1
    exact key ⟨m, hm⟩ c hc)
  have hnest : ndL g n (po + 1, -1) [117, 101, 115, 116, 105, 111, 110, 32] = nd g n (nd g n (nd g n (nd g n (nd g n (nd g n (nd g n (nd g n (po + 1, -1) 117) 101) 115) 116) 105) 111) 110) 32 := rfl
  rw [hnest] at hrun
  have hll : (([117, 101, 115, 116, 105, 111, 110, 32] : List Int).length : Int) = 8 := rfl
  rw [hll] at hrun
  by_cases hF : fwZ f n po 3 = 9
  · rw [if_pos (by omega), show po + (1 + 8) = po + 9 by omega] at hrun
    have hkk2 : kkZ f n po = 3 := by rw [hkk, if_pos hF]
    rw [hrun]
    obtain ⟨a1, a2⟩ := arg_qu (f := f) (g := g) (n := n) (p := po + 9) hfg (by omega)
    have hiq : quQ f n (po + 9) ↔ arQ f n (po + 9) 3 := by simp [arQ, dgt]
    refine ⟨?_, fun _ hq => ?_⟩
    · rw [a1]
      unfold ceS
      rw [if_neg (by omega)]
      unfold paE
      rw [hbk, hF, hkk2]
      exact fnS_c hiq (by simp [arP])
    · rw [hbk, hF, hkk2] at hq
      have hQ := hiq.mpr hq
      have hv := a2 hQ
      have r1 : paC f n po si pr 1 si = 3 := by
        show updZ _ si (kkZ f n po) si = _
        rw [updZ_at, hkk2]
      have r2 : paC f n po si pr 2 si = nuV f n (po + 9) := by
        show arC f n (po + fwZ f n po (bkZ f n po 7)) si (kkZ f n po) pr 2 si = _
        rw [hbk, hF, hkk2]
        show nuG f n (po + 9) si (pr 2) si = _
        exact nuG_at hQ.1.1
      have r3 : paC f n po si pr 3 si = sgZ f n (nuP f n (po + 9) + 1) - 48 := by
        show arC f n (po + fwZ f n po (bkZ f n po 7)) si (kkZ f n po) pr 3 si = _
        rw [hbk, hF, hkk2]
        show cwG f n (po + 9) si (pr 3) si = _
        exact cwG_at hQ.1
      have r4 : paC f n po si pr 4 si = if sgZ f n (cwP f n (po + 9)) = 33 then 1 else 0 := by
        show arC f n (po + fwZ f n po (bkZ f n po 7)) si (kkZ f n po) pr 4 si = _
        rw [hbk, hF, hkk2]
        show flG f n (po + 9) si 33 (pr 4) si = _
        exact flG_at hQ.1
      unfold CmR
      rw [r1, r2, r3, r4]
      refine ⟨?_, ?_, fun z => ?_, fun z => ?_, fun z => ?_⟩
      · rw [updZ_ne _ _ (by omega), updZ_ne _ _ (by omega), updZ_ne _ _ (by omega), updZ_at]; rfl
      · rw [updZ_ne _ _ (by omega), updZ_ne _ _ (by omega), updZ_at]
        exact hv.1
      · rw [updZ_ne _ _ (by omega), updZ_at]
        exact hv.2.1
      · rw [updZ_at]
        exact hv.2.2
      · exfalso; omega
  · rw [if_neg (by omega)] at hrun
    have hkk2 : kkZ f n po = -1 := by rw [hkk, if_neg hF]
    have hpos : 0 ≤ po + fwZ f n po 3 := by omega
    refine ⟨?_, fun z => absurd hkk2 z⟩
    rw [hrun]
    rw [nmx_e (show 0 ≤ ((po + fwZ f n po 3, po + fwZ f n po 3) : Int × Int).2 from hpos)]
    rw [nd_e (show 0 ≤ ((po + fwZ f n po 3, po + fwZ f n po 3) : Int × Int).2 from hpos)]
    rw [nmx_e (show 0 ≤ ((po + fwZ f n po 3, po + fwZ f n po 3) : Int × Int).2 from hpos)]
    rw [ei_e (show 0 ≤ ((po + fwZ f n po 3, po + fwZ f n po 3) : Int × Int).2 from hpos)]
    unfold ceS
    rw [if_pos hkk2, hbk]
theorem cmd_d {f g cm0 : Int → Int} {n si : Int} {pr : Nat → Int → Int} {sp : Int × Int} (h2 : sp.2 = -1) (hp : 0 ≤ sp.1) (hfg : AgR f g n) (h1 : sgM g n sp.1 = 100) : (nm g n (nd g n (nd g n (nd g n (nd g n (nd g n (nd g n (sp.1 + 1, sp.2) 101) 99) 105) 100) 101) 32) 2).2 = ceS f n sp.1 ∧ (¬ kkZ f n sp.1 = -1 → arQ f n (sp.1 + fwZ f n sp.1 (bkZ f n sp.1 7)) (kkZ f n sp.1) → CmR (paC f n sp.1 si pr) (updZ (updZ (clB cm0 (5 * si) 5) (5 * si) 100) (5 * si + 1) (nm g n (nd g n (nd g n (nd g n (nd g n (nd g n (nd g n (sp.1 + 1, sp.2) 101) 99) 105) 100) 101) 32) 2).1) si) := by
  obtain ⟨po, e⟩ := sp
  dsimp only at h2 hp h1 ⊢
  subst h2
  have hM := sgM_Z hfg hp
  have hZ : sgZ f n po = 100 := by omega
  obtain ⟨k0, k1, k2, k3, k4, k5, k6, k01, k61⟩ := kwF
  have e0 := fw_1 (f := f) (n := n) (po := po) (q := 0) (by decide)
  rw [hZ, k0] at e0
  have b0 := fwZ_b f n po (q := 0) (by decide)
  have e1 := fw_1 (f := f) (n := n) (po := po) (q := 1) (by decide)
  rw [hZ, k1] at e1
  have b1 := fwZ_b f n po (q := 1) (by decide)
  have e2 := fw_1 (f := f) (n := n) (po := po) (q := 2) (by decide)
  rw [hZ, k2] at e2
  have b2 := fwZ_b f n po (q := 2) (by decide)
  have e3 := fw_1 (f := f) (n := n) (po := po) (q := 3) (by decide)
  rw [hZ, k3] at e3
  have b3 := fwZ_b f n po (q := 3) (by decide)
  have e4 := fw_1 (f := f) (n := n) (po := po) (q := 4) (by decide)
  rw [hZ, k4] at e4
  have b4 := fwZ_b f n po (q := 4) (by decide)
  have e5 := fw_1 (f := f) (n := n) (po := po) (q := 5) (by decide)
  rw [hZ, k5] at e5
  have b5 := fwZ_b f n po (q := 5) (by decide)
  have e6 := fw_1 (f := f) (n := n) (po := po) (q := 6) (by decide)
  rw [hZ, k6] at e6
  have b6 := fwZ_b f n po (q := 6) (by decide)
  have hbk : bkZ f n po 7 = 4 := by
    have c0 : bkZ f n po 0 = 0 := rfl
    have c1 : bkZ f n po 1 = 0 := by rw [bkZ_s, c0, if_neg (by omega)]
    have c2 : bkZ f n po 2 = 0 := by rw [bkZ_s, c1, if_neg (by omega)]
    have c3 : bkZ f n po 3 = 0 := by rw [bkZ_s, c2, if_neg (by omega)]
    have c4 : bkZ f n po 4 = 0 := by rw [bkZ_s, c3, if_neg (by omega)]
    have c5 : bkZ f n po 5 = 4 := by rw [bkZ_s, c4, if_pos (by omega)]
    have c6 : bkZ f n po 6 = 4 := by rw [bkZ_s, c5, if_neg (by omega)]
    have c7 : bkZ f n po 7 = 4 := by rw [bkZ_s, c6, if_neg (by omega)]
    exact c7
  have hlen : kwLen 4 = 7 := by decide +kernel
  have hkk : kkZ f n po = if fwZ f n po 4 = 7 then 4 else -1 := by
    unfold kkZ
    rw [hbk, hlen]
    rfl
  have key : ∀ m : Fin 6, ∀ c : Int, ([101, 99, 105, 100, 101, 32] : List Int)[(m : Nat)]? = some c → c = kwZ 4 (1 + ((m : Nat) : Int)) ∧ 0 < c := by
    intro m c hc
    have kk : ∀ m : Fin 6, ([101, 99, 105, 100, 101, 32] : List Int)[(m : Nat)]? = some (kwZ 4 (1 + ((m : Nat) : Int))) ∧ 0 < kwZ 4 (1 + ((m : Nat) : Int)) := by decide +kernel
    have h := kk m
    rw [h.1] at hc
    have hc := Option.some.inj hc
    exact ⟨hc.symm, by rw [← hc]; exact h.2⟩
  have hrun := ndL_run (q := 4) (by decide) hfg hp [101, 99, 105, 100, 101, 32] 1 (by decide) (by omega) (by rw [hlen]; decide) (fun m c hc => by
    have hm : m < 6 := (List.getElem?_eq_some_iff.mp hc).1
    exact key ⟨m, hm⟩ c hc)
  have hnest : ndL g n (po + 1, -1) [101, 99, 105, 100, 101, 32] = nd g n (nd g n (nd g n (nd g n (nd g n (nd g n (po + 1, -1) 101) 99) 105) 100) 101) 32 := rfl
  rw [hnest] at hrun
  have hll : (([101, 99, 105, 100, 101, 32] : List Int).length : Int) = 6 := rfl
  rw [hll] at hrun
  by_cases hF : fwZ f n po 4 = 7
  · rw [if_pos (by omega), show po + (1 + 6) = po + 7 by omega] at hrun
    have hkk2 : kkZ f n po = 4 := by rw [hkk, if_pos hF]
    rw [hrun]
    obtain ⟨a1, a2⟩ := arg_n (f := f) (g := g) (n := n) (p := po + 7) hfg (by omega)
    have hiq : dgt (sgZ f n (po + 7)) ↔ arQ f n (po + 7) 4 := by simp [arQ, dgt]
    refine ⟨?_, fun _ hq => ?_⟩
    · rw [a1]
      unfold ceS
      rw [if_neg (by omega)]
      unfold paE
      rw [hbk, hF, hkk2]
      exact fnS_c hiq (by simp [arP])
    · rw [hbk, hF, hkk2] at hq
      have hQ := hiq.mpr hq
      have hv := a2 hQ
      have r1 : paC f n po si pr 1 si = 4 := by
        show updZ _ si (kkZ f n po) si = _
        rw [updZ_at, hkk2]
      have r2 : paC f n po si pr 2 si = nuV f n (po + 7) := by
        show arC f n (po + fwZ f n po (bkZ f n po 7)) si (kkZ f n po) pr 2 si = _
        rw [hbk, hF, hkk2]
        show nuG f n (po + 7) si (pr 2) si = _
        exact nuG_at hQ
      unfold CmR
      rw [r1, r2]
      refine ⟨?_, ?_, fun z => ?_, fun z => ?_, fun z => ?_⟩
      · rw [updZ_ne _ _ (by omega), updZ_at]; rfl
      · rw [updZ_at]
        exact hv
      · exfalso; omega
      · exfalso; omega
      · exfalso; omega
  · rw [if_neg (by omega)] at hrun
    have hkk2 : kkZ f n po = -1 := by rw [hkk, if_neg hF]
    have hpos : 0 ≤ po + fwZ f n po 4 := by omega
    refine ⟨?_, fun z => absurd hkk2 z⟩
    rw [hrun]
    rw [nmx_e (show 0 ≤ ((po + fwZ f n po 4, po + fwZ f n po 4) : Int × Int).2 from hpos)]
    unfold ceS
    rw [if_pos hkk2, hbk]
theorem cmd_a {f g cm0 : Int → Int} {n si : Int} {pr : Nat → Int → Int} {sp : Int × Int} (h2 : sp.2 = -1) (hp : 0 ≤ sp.1) (hfg : AgR f g n) (h1 : sgM g n sp.1 = 97) : (nm g n (nd g n (nd g n (nd g n (nd g n (nd g n (nd g n (sp.1 + 1, sp.2) 112) 112) 101) 97) 108) 32) 2).2 = ceS f n sp.1 ∧ (¬ kkZ f n sp.1 = -1 → arQ f n (sp.1 + fwZ f n sp.1 (bkZ f n sp.1 7)) (kkZ f n sp.1) → CmR (paC f n sp.1 si pr) (updZ (updZ (clB cm0 (5 * si) 5) (5 * si) 97) (5 * si + 1) (nm g n (nd g n (nd g n (nd g n (nd g n (nd g n (nd g n (sp.1 + 1, sp.2) 112) 112) 101) 97) 108) 32) 2).1) si) := by
  obtain ⟨po, e⟩ := sp
  dsimp only at h2 hp h1 ⊢
  subst h2
  have hM := sgM_Z hfg hp
  have hZ : sgZ f n po = 97 := by omega
  obtain ⟨k0, k1, k2, k3, k4, k5, k6, k01, k61⟩ := kwF
  have e0 := fw_1 (f := f) (n := n) (po := po) (q := 0) (by decide)
  rw [hZ, k0] at e0
  have b0 := fwZ_b f n po (q := 0) (by decide)
  have e1 := fw_1 (f := f) (n := n) (po := po) (q := 1) (by decide)
  rw [hZ, k1] at e1
  have b1 := fwZ_b f n po (q := 1) (by decide)
  have e2 := fw_1 (f := f) (n := n) (po := po) (q := 2) (by decide)
  rw [hZ, k2] at e2
  have b2 := fwZ_b f n po (q := 2) (by decide)
  have e3 := fw_1 (f := f) (n := n) (po := po) (q := 3) (by decide)
  rw [hZ, k3] at e3
  have b3 := fwZ_b f n po (q := 3) (by decide)
  have e4 := fw_1 (f := f) (n := n) (po := po) (q := 4) (by decide)
  rw [hZ, k4] at e4
  have b4 := fwZ_b f n po (q := 4) (by decide)
  have e5 := fw_1 (f := f) (n := n) (po := po) (q := 5) (by decide)
  rw [hZ, k5] at e5
  have b5 := fwZ_b f n po (q := 5) (by decide)
  have e6 := fw_1 (f := f) (n := n) (po := po) (q := 6) (by decide)
  rw [hZ, k6] at e6
  have b6 := fwZ_b f n po (q := 6) (by decide)
  have hbk : bkZ f n po 7 = 5 := by
    have c0 : bkZ f n po 0 = 0 := rfl
    have c1 : bkZ f n po 1 = 0 := by rw [bkZ_s, c0, if_neg (by omega)]
    have c2 : bkZ f n po 2 = 0 := by rw [bkZ_s, c1, if_neg (by omega)]
    have c3 : bkZ f n po 3 = 0 := by rw [bkZ_s, c2, if_neg (by omega)]
    have c4 : bkZ f n po 4 = 0 := by rw [bkZ_s, c3, if_neg (by omega)]
    have c5 : bkZ f n po 5 = 0 := by rw [bkZ_s, c4, if_neg (by omega)]
    have c6 : bkZ f n po 6 = 5 := by rw [bkZ_s, c5, if_pos (by omega)]
    have c7 : bkZ f n po 7 = 5 := by rw [bkZ_s, c6, if_neg (by omega)]
    exact c7
  have hlen : kwLen 5 = 7 := by decide +kernel
  have hkk : kkZ f n po = if fwZ f n po 5 = 7 then 5 else -1 := by
    unfold kkZ
    rw [hbk, hlen]
    rfl
  have key : ∀ m : Fin 6, ∀ c : Int, ([112, 112, 101, 97, 108, 32] : List Int)[(m : Nat)]? = some c → c = kwZ 5 (1 + ((m : Nat) : Int)) ∧ 0 < c := by
    intro m c hc
    have kk : ∀ m : Fin 6, ([112, 112, 101, 97, 108, 32] : List Int)[(m : Nat)]? = some (kwZ 5 (1 + ((m : Nat) : Int))) ∧ 0 < kwZ 5 (1 + ((m : Nat) : Int)) := by decide +kernel
    have h := kk m
    rw [h.1] at hc
    have hc := Option.some.inj hc
    exact ⟨hc.symm, by rw [← hc]; exact h.2⟩
  have hrun := ndL_run (q := 5) (by decide) hfg hp [112, 112, 101, 97, 108, 32] 1 (by decide) (by omega) (by rw [hlen]; decide) (fun m c hc => by
    have hm : m < 6 := (List.getElem?_eq_some_iff.mp hc).1
    exact key ⟨m, hm⟩ c hc)
  have hnest : ndL g n (po + 1, -1) [112, 112, 101, 97, 108, 32] = nd g n (nd g n (nd g n (nd g n (nd g n (nd g n (po + 1, -1) 112) 112) 101) 97) 108) 32 := rfl
  rw [hnest] at hrun
  have hll : (([112, 112, 101, 97, 108, 32] : List Int).length : Int) = 6 := rfl
  rw [hll] at hrun
  by_cases hF : fwZ f n po 5 = 7
  · rw [if_pos (by omega), show po + (1 + 6) = po + 7 by omega] at hrun
    have hkk2 : kkZ f n po = 5 := by rw [hkk, if_pos hF]
    rw [hrun]
    obtain ⟨a1, a2⟩ := arg_n (f := f) (g := g) (n := n) (p := po + 7) hfg (by omega)
    have hiq : dgt (sgZ f n (po + 7)) ↔ arQ f n (po + 7) 5 := by simp [arQ, dgt]
    refine ⟨?_, fun _ hq => ?_⟩
    · rw [a1]
      unfold ceS
      rw [if_neg (by omega)]
      unfold paE
      rw [hbk, hF, hkk2]
      exact fnS_c hiq (by simp [arP])
    · rw [hbk, hF, hkk2] at hq
      have hQ := hiq.mpr hq
      have hv := a2 hQ
      have r1 : paC f n po si pr 1 si = 5 := by
        show updZ _ si (kkZ f n po) si = _
        rw [updZ_at, hkk2]
      have r2 : paC f n po si pr 2 si = nuV f n (po + 7) := by
        show arC f n (po + fwZ f n po (bkZ f n po 7)) si (kkZ f n po) pr 2 si = _
        rw [hbk, hF, hkk2]
        show nuG f n (po + 7) si (pr 2) si = _
        exact nuG_at hQ
      unfold CmR
      rw [r1, r2]
      refine ⟨?_, ?_, fun z => ?_, fun z => ?_, fun z => ?_⟩
      · rw [updZ_ne _ _ (by omega), updZ_at]; rfl
      · rw [updZ_at]
        exact hv
      · exfalso; omega
      · exfalso; omega
      · exfalso; omega
  · rw [if_neg (by omega)] at hrun
    have hkk2 : kkZ f n po = -1 := by rw [hkk, if_neg hF]
    have hpos : 0 ≤ po + fwZ f n po 5 := by omega
    refine ⟨?_, fun z => absurd hkk2 z⟩
    rw [hrun]
    rw [nmx_e (show 0 ≤ ((po + fwZ f n po 5, po + fwZ f n po 5) : Int × Int).2 from hpos)]
    unfold ceS
    rw [if_pos hkk2, hbk]
theorem cmd_l {f g cm0 : Int → Int} {n si : Int} {pr : Nat → Int → Int} {sp : Int × Int} (h2 : sp.2 = -1) (hp : 0 ≤ sp.1) (hfg : AgR f g n) (h1 : sgM g n sp.1 = 99) (hl : sgM g n (sp.1 + 1) = 108) : (nm g n (nd g n (nd g n (nd g n (nd g n (nd g n (sp.1 + 1, sp.2) 108) 111) 115) 101) 32) 2).2 = ceS f n sp.1 ∧ (¬ kkZ f n sp.1 = -1 → arQ f n (sp.1 + fwZ f n sp.1 (bkZ f n sp.1 7)) (kkZ f n sp.1) → CmR (paC f n sp.1 si pr) (updZ (updZ (clB cm0 (5 * si) 5) (5 * si) 108) (5 * si + 1) (nm g n (nd g n (nd g n (nd g n (nd g n (nd g n (sp.1 + 1, sp.2) 108) 111) 115) 101) 32) 2).1) si) := by
  obtain ⟨po, e⟩ := sp
  dsimp only at h2 hp h1 hl ⊢
  subst h2
  have hM := sgM_Z hfg hp
  have hZ : sgZ f n po = 99 := by omega
  obtain ⟨k0, k1, k2, k3, k4, k5, k6, k01, k61⟩ := kwF
  have e0 := fw_1 (f := f) (n := n) (po := po) (q := 0) (by decide)
  rw [hZ, k0] at e0
  have b0 := fwZ_b f n po (q := 0) (by decide)
  have e1 := fw_1 (f := f) (n := n) (po := po) (q := 1) (by decide)
  rw [hZ, k1] at e1
  have b1 := fwZ_b f n po (q := 1) (by decide)
  have e2 := fw_1 (f := f) (n := n) (po := po) (q := 2) (by decide)
  rw [hZ, k2] at e2
  have b2 := fwZ_b f n po (q := 2) (by decide)
  have e3 := fw_1 (f := f) (n := n) (po := po) (q := 3) (by decide)
  rw [hZ, k3] at e3
  have b3 := fwZ_b f n po (q := 3) (by decide)
  have e4 := fw_1 (f := f) (n := n) (po := po) (q := 4) (by decide)
  rw [hZ, k4] at e4
  have b4 := fwZ_b f n po (q := 4) (by decide)
  have e5 := fw_1 (f := f) (n := n) (po := po) (q := 5) (by decide)
  rw [hZ, k5] at e5
  have b5 := fwZ_b f n po (q := 5) (by decide)
  have e6 := fw_1 (f := f) (n := n) (po := po) (q := 6) (by decide)
  rw [hZ, k6] at e6
  have b6 := fwZ_b f n po (q := 6) (by decide)
  have hM1 := sgM_Z (f := f) (g := g) (n := n) (i := po + 1) hfg (by omega)
  have y0 := fw_2 (f := f) (n := n) (po := po) (q := 0) (by decide)
  have y6 := fw_2 (f := f) (n := n) (po := po) (q := 6) (by decide)
  rw [k01] at y0
  rw [k61] at y6
  have hbk : bkZ f n po 7 = 6 := by
    have c0 : bkZ f n po 0 = 0 := rfl
    have c1 : bkZ f n po 1 = 0 := by rw [bkZ_s, c0, if_neg (by omega)]
    have c2 : bkZ f n po 2 = 0 := by rw [bkZ_s, c1, if_neg (by omega)]
    have c3 : bkZ f n po 3 = 0 := by rw [bkZ_s, c2, if_neg (by omega)]
    have c4 : bkZ f n po 4 = 0 := by rw [bkZ_s, c3, if_neg (by omega)]
    have c5 : bkZ f n po 5 = 0 := by rw [bkZ_s, c4, if_neg (by omega)]
    have c6 : bkZ f n po 6 = 0 := by rw [bkZ_s, c5, if_neg (by omega)]
    have c7 : bkZ f n po 7 = 6 := by rw [bkZ_s, c6, if_pos (by omega)]
    exact c7
  have hlen : kwLen 6 = 6 := by decide +kernel
  have hkk : kkZ f n po = if fwZ f n po 6 = 6 then 6 else -1 := by
    unfold kkZ
    rw [hbk, hlen]
    rfl
  have key : ∀ m : Fin 5, ∀ c : Int, ([108, 111, 115, 101, 32] : List Int)[(m : Nat)]? = some c → c = kwZ 6 (1 + ((m : Nat) : Int)) ∧ 0 < c := by
    intro m c hc
    have kk : ∀ m : Fin 5, ([108, 111, 115, 101, 32] : List Int)[(m : Nat)]? = some (kwZ 6 (1 + ((m : Nat) : Int))) ∧ 0 < kwZ 6 (1 + ((m : Nat) : Int)) := by decide +kernel
    have h := kk m
    rw [h.1] at hc
    have hc := Option.some.inj hc
    exact ⟨hc.symm, by rw [← hc]; exact h.2⟩
  have hrun := ndL_run (q := 6) (by decide) hfg hp [108, 111, 115, 101, 32] 1 (by decide) (by omega) (by rw [hlen]; decide) (fun m c hc => by
    have hm : m < 5 := (List.getElem?_eq_some_iff.mp hc).1
    exact key ⟨m, hm⟩ c hc)
  have hnest : ndL g n (po + 1, -1) [108, 111, 115, 101, 32] = nd g n (nd g n (nd g n (nd g n (nd g n (po + 1, -1) 108) 111) 115) 101) 32 := rfl
  rw [hnest] at hrun
  have hll : (([108, 111, 115, 101, 32] : List Int).length : Int) = 5 := rfl
  rw [hll] at hrun
  by_cases hF : fwZ f n po 6 = 6
  · rw [if_pos (by omega), show po + (1 + 5) = po + 6 by omega] at hrun
    have hkk2 : kkZ f n po = 6 := by rw [hkk, if_pos hF]
    rw [hrun]
    obtain ⟨a1, a2⟩ := arg_n (f := f) (g := g) (n := n) (p := po + 6) hfg (by omega)
    have hiq : dgt (sgZ f n (po + 6)) ↔ arQ f n (po + 6) 6 := by simp [arQ, dgt]
    refine ⟨?_, fun _ hq => ?_⟩
    · rw [a1]
      unfold ceS
      rw [if_neg (by omega)]
      unfold paE
      rw [hbk, hF, hkk2]
      exact fnS_c hiq (by simp [arP])
    · rw [hbk, hF, hkk2] at hq
      have hQ := hiq.mpr hq
      have hv := a2 hQ
      have r1 : paC f n po si pr 1 si = 6 := by
        show updZ _ si (kkZ f n po) si = _
        rw [updZ_at, hkk2]
      have r2 : paC f n po si pr 2 si = nuV f n (po + 6) := by
        show arC f n (po + fwZ f n po (bkZ f n po 7)) si (kkZ f n po) pr 2 si = _
        rw [hbk, hF, hkk2]
        show nuG f n (po + 6) si (pr 2) si = _
        exact nuG_at hQ
      unfold CmR
      rw [r1, r2]
      refine ⟨?_, ?_, fun z => ?_, fun z => ?_, fun z => ?_⟩
      · rw [updZ_ne _ _ (by omega), updZ_at]; rfl
      · rw [updZ_at]
        exact hv
      · exfalso; omega
      · exfalso; omega
      · exfalso; omega
  · rw [if_neg (by omega)] at hrun
    have hkk2 : kkZ f n po = -1 := by rw [hkk, if_neg hF]
    have hpos : 0 ≤ po + fwZ f n po 6 := by omega
    refine ⟨?_, fun z => absurd hkk2 z⟩
    rw [hrun]
    rw [nmx_e (show 0 ≤ ((po + fwZ f n po 6, po + fwZ f n po 6) : Int × Int).2 from hpos)]
    unfold ceS
    rw [if_pos hkk2, hbk]
theorem cmd_0 {f g : Int → Int} {n : Int} {sp : Int × Int} (hp : 0 ≤ sp.1) (hfg : AgR f g n) (h1 : ¬ (sgM g n sp.1 = 99 ∨ sgM g n sp.1 = 119 ∨ sgM g n sp.1 = 116 ∨ sgM g n sp.1 = 113 ∨ sgM g n sp.1 = 100 ∨ sgM g n sp.1 = 97)) : (sp.1, sp.1) = ceS f n sp.1 ∧ kkZ f n sp.1 = -1 := by
  obtain ⟨po, e⟩ := sp
  dsimp only at hp h1 ⊢
  have hM := sgM_Z hfg hp
  obtain ⟨k0, k1, k2, k3, k4, k5, k6, k01, k61⟩ := kwF
  have e0 := fw_1 (f := f) (n := n) (po := po) (q := 0) (by decide)
  rw [k0] at e0
  have b0 := fwZ_b f n po (q := 0) (by decide)
  have e1 := fw_1 (f := f) (n := n) (po := po) (q := 1) (by decide)
  rw [k1] at e1
  have b1 := fwZ_b f n po (q := 1) (by decide)
  have e2 := fw_1 (f := f) (n := n) (po := po) (q := 2) (by decide)
  rw [k2] at e2
  have b2 := fwZ_b f n po (q := 2) (by decide)
  have e3 := fw_1 (f := f) (n := n) (po := po) (q := 3) (by decide)
  rw [k3] at e3
  have b3 := fwZ_b f n po (q := 3) (by decide)
  have e4 := fw_1 (f := f) (n := n) (po := po) (q := 4) (by decide)
  rw [k4] at e4
  have b4 := fwZ_b f n po (q := 4) (by decide)
  have e5 := fw_1 (f := f) (n := n) (po := po) (q := 5) (by decide)
  rw [k5] at e5
  have b5 := fwZ_b f n po (q := 5) (by decide)
  have e6 := fw_1 (f := f) (n := n) (po := po) (q := 6) (by decide)
  rw [k6] at e6
  have b6 := fwZ_b f n po (q := 6) (by decide)
  have hbk : bkZ f n po 7 = 0 := by
    have c0 : bkZ f n po 0 = 0 := rfl
    have c1 : bkZ f n po 1 = 0 := by rw [bkZ_s, c0, if_neg (by omega)]
    have c2 : bkZ f n po 2 = 0 := by rw [bkZ_s, c1, if_neg (by omega)]
    have c3 : bkZ f n po 3 = 0 := by rw [bkZ_s, c2, if_neg (by omega)]
    have c4 : bkZ f n po 4 = 0 := by rw [bkZ_s, c3, if_neg (by omega)]
    have c5 : bkZ f n po 5 = 0 := by rw [bkZ_s, c4, if_neg (by omega)]
    have c6 : bkZ f n po 6 = 0 := by rw [bkZ_s, c5, if_neg (by omega)]
    have c7 : bkZ f n po 7 = 0 := by rw [bkZ_s, c6, if_neg (by omega)]
    exact c7
  have hlen : kwLen 0 = 7 := by decide +kernel
  have hkk : kkZ f n po = -1 := by
    unfold kkZ
    rw [hbk, hlen, if_neg (by omega)]
  refine ⟨?_, hkk⟩
  unfold ceS
  rw [if_pos hkk, hbk, show fwZ f n po 0 = 0 by omega, Int.add_zero]
