/-! the class's reader against the reference's -/
abbrev AgR (f g : Int → Int) (n : Int) : Prop := ∀ j : Int, 0 ≤ j → j < n → g j = f j
theorem sgM_Z {f g : Int → Int} {n i : Int} (hfg : AgR f g n) (h0 : 0 ≤ i) : (sgM g n i = -1 ∧ sgZ f n i = 0 ∧ n ≤ i) ∨ (sgM g n i = sgZ f n i ∧ i < n) := by
  unfold sgM sgZ
  by_cases h : i < n
  · rw [if_pos h, if_pos ⟨h0, h⟩]
    exact Or.inr ⟨hfg i h0 h, h⟩
  · rw [if_neg h, if_neg (by omega)]
    exact Or.inl ⟨rfl, rfl, by omega⟩
theorem nd_e {g : Int → Int} {n : Int} {s : Int × Int} {c : Int} (h : 0 ≤ s.2) : nd g n s c = s := if_pos h
theorem nmx_e {g : Int → Int} {n : Int} {s : Int × Int} {d : Int} (h : 0 ≤ s.2) : nm g n s d = (0, s) := if_pos h
theorem ei_e {g : Int → Int} {n : Int} {s : Int × Int} {a b : Int} (h : 0 ≤ s.2) : ei g n s a b = (0, s) := if_pos h
theorem nd_Z {f g : Int → Int} {n p c : Int} (hfg : AgR f g n) (h0 : 0 ≤ p) (hc : 0 < c) : nd g n (p, -1) c = if sgZ f n p = c then (p + 1, -1) else (p, p) := by
  have h := sgM_Z hfg h0
  unfold nd
  rw [if_neg (show ¬ (0 : Int) ≤ -1 by omega)]
  dsimp only
  by_cases q : sgZ f n p = c
  · rw [if_pos q, if_pos (by omega)]
  · rw [if_neg q, if_neg (by omega)]
theorem nm_Z1 {f g : Int → Int} {n p : Int} (hfg : AgR f g n) (h0 : 0 ≤ p) : nm g n (p, -1) 1 = if dgt (sgZ f n p) then (sgZ f n p - 48, (p + 1, -1)) else (0, (p, p)) := by
  have h := sgM_Z hfg h0
  unfold nm
  rw [if_neg (show ¬ (0 : Int) ≤ -1 by omega)]
  dsimp only
  by_cases q : dgt (sgZ f n p)
  · rw [if_pos q, if_pos (by omega), if_neg (by omega)]
    rw [show sgM g n p = sgZ f n p by omega]
  · rw [if_neg q, if_neg (by omega)]
def nuV (f : Int → Int) (n p : Int) : Int := if dgt (sgZ f n (p + 1)) then 10 * (sgZ f n p - 48) + (sgZ f n (p + 1) - 48) else sgZ f n p - 48
theorem nm_Z2 {f g : Int → Int} {n p : Int} (hfg : AgR f g n) (h0 : 0 ≤ p) : nm g n (p, -1) 2 = if dgt (sgZ f n p) then (nuV f n p, (nuP f n p, -1)) else (0, (p, p)) := by
  have h := sgM_Z hfg h0
  have h1 := sgM_Z (f := f) (g := g) (n := n) (i := p + 1) hfg (by omega)
  unfold nm
  rw [if_neg (show ¬ (0 : Int) ≤ -1 by omega)]
  dsimp only
  by_cases q : dgt (sgZ f n p)
  · rw [if_pos q, if_pos (by omega)]
    unfold nuV nuP
    rw [if_pos q]
    by_cases q1 : dgt (sgZ f n (p + 1))
    · rw [if_pos q1, if_pos q1, if_pos (by omega)]
      rw [show sgM g n p = sgZ f n p by omega, show sgM g n (p + 1) = sgZ f n (p + 1) by omega, show p + 2 = p + 1 + 1 by omega]
    · rw [if_neg q1, if_neg q1, if_neg (by omega)]
      rw [show sgM g n p = sgZ f n p by omega]
  · rw [if_neg q, if_neg (by omega)]
theorem ei_Z {f g : Int → Int} {n p a b : Int} (hfg : AgR f g n) (h0 : 0 ≤ p) (ha : 0 < a) (hb : 0 < b) : ei g n (p, -1) a b = if sgZ f n p = a ∨ sgZ f n p = b then (if sgZ f n p = a then 1 else 0, (p + 1, -1)) else (0, (p, p)) := by
  have h := sgM_Z hfg h0
  unfold ei
  rw [if_neg (show ¬ (0 : Int) ≤ -1 by omega)]
  dsimp only
  by_cases q : sgZ f n p = a ∨ sgZ f n p = b
  · rw [if_pos q, if_pos (by omega)]
    by_cases q1 : sgZ f n p = a
    · rw [if_pos q1, if_pos (by omega)]
    · rw [if_neg q1, if_neg (by omega)]
  · rw [if_neg q, if_neg (by omega)]
/-- where a reader ends that wanted q -/
def fnS (q : Prop) [Decidable q] (P : Int) : Int × Int := if q then (P, -1) else (P, P)
theorem fnS_t {q : Prop} [Decidable q] {P : Int} (h : q) : fnS q P = (P, -1) := if_pos h
theorem fnS_f {q : Prop} [Decidable q] {P : Int} (h : ¬ q) : fnS q P = (P, P) := if_neg h
theorem arg_n {f g : Int → Int} {n p : Int} (hfg : AgR f g n) (h0 : 0 ≤ p) : (nm g n (p, -1) 2).2 = fnS (dgt (sgZ f n p)) (nuP f n p) ∧ (dgt (sgZ f n p) → (nm g n (p, -1) 2).1 = nuV f n p) := by
  rw [nm_Z2 hfg h0]
  by_cases q : dgt (sgZ f n p)
  · rw [if_pos q, fnS_t q]
    exact ⟨rfl, fun _ => rfl⟩
  · rw [if_neg q, fnS_f q]
    refine ⟨?_, fun z => absurd z q⟩
    unfold nuP
    rw [if_neg q]
theorem arg_d {f g : Int → Int} {n p : Int} (hfg : AgR f g n) (h0 : 0 ≤ p) : (nm g n (p, -1) 1).2 = fnS (dgt (sgZ f n p)) (dgP f n p) ∧ (dgt (sgZ f n p) → (nm g n (p, -1) 1).1 = sgZ f n p - 48) := by
  rw [nm_Z1 hfg h0]
  unfold dgP
  by_cases q : dgt (sgZ f n p)
  · rw [if_pos q, if_pos q, fnS_t q]
    exact ⟨rfl, fun _ => rfl⟩
  · rw [if_neg q, if_neg q, fnS_f q]
    exact ⟨rfl, fun z => absurd z q⟩
/-- a digit behind a space -/
theorem arg_sd {f g : Int → Int} {n p : Int} (hfg : AgR f g n) (h0 : 0 ≤ p) : (nm g n (nd g n (p, -1) 32) 1).2 = fnS (sgZ f n p = 32 ∧ dgt (sgZ f n (p + 1))) (if sgZ f n p = 32 then (if dgt (sgZ f n (p + 1)) then p + 1 + 1 else p + 1) else p) ∧ (sgZ f n p = 32 ∧ dgt (sgZ f n (p + 1)) → (nm g n (nd g n (p, -1) 32) 1).1 = sgZ f n (p + 1) - 48) := by
  rw [nd_Z hfg h0 (by decide)]
  by_cases q : sgZ f n p = 32
  · rw [if_pos q, if_pos q, nm_Z1 hfg (by omega)]
    by_cases q1 : dgt (sgZ f n (p + 1))
    · rw [if_pos q1, if_pos q1, fnS_t ⟨q, q1⟩]
      exact ⟨rfl, fun _ => rfl⟩
    · rw [if_neg q1, if_neg q1, fnS_f (fun z => q1 z.2)]
      exact ⟨rfl, fun z => absurd z.2 q1⟩
  · rw [if_neg q, if_neg q, nmx_e (show (0 : Int) ≤ p from h0), fnS_f (fun z => q z.1)]
    exact ⟨rfl, fun z => absurd z.1 q⟩
theorem fnS_c {q r : Prop} [Decidable q] [Decidable r] {P Q : Int} (h : q ↔ r) (e : P = Q) : fnS q P = fnS r Q := by
  subst e
  by_cases z : q
  · rw [fnS_t z, fnS_t (h.mp z)]
  · rw [fnS_f z, fnS_f (fun y => z (h.mpr y))]
theorem arg_ch {f g : Int → Int} {n p : Int} (hfg : AgR f g n) (h0 : 0 ≤ p) : (nm g n (nd g n (nm g n (p, -1) 1).2 32) 1).2 = fnS (chQ f n p) (chP f n p) ∧ (chQ f n p → (nm g n (p, -1) 1).1 = sgZ f n p - 48 ∧ (nm g n (nd g n (nm g n (p, -1) 1).2 32) 1).1 = sgZ f n (p + 1 + 1) - 48) := by
  obtain ⟨a1, a2⟩ := arg_d hfg h0
  rw [a1]
  by_cases q : dgt (sgZ f n p)
  · have e : dgP f n p = p + 1 := by unfold dgP; rw [if_pos q]
    rw [fnS_t q, e]
    obtain ⟨b1, b2⟩ := arg_sd (f := f) (g := g) (n := n) (p := p + 1) hfg (by omega)
    refine ⟨?_, fun z => ⟨a2 q, b2 z.2⟩⟩
    rw [b1]
    refine fnS_c ⟨fun z => ⟨q, z⟩, fun z => z.2⟩ ?_
    unfold chP
    rw [if_pos q]
  · have e : dgP f n p = p := by unfold dgP; rw [if_neg q]
    rw [fnS_f q, e, nd_e (show (0 : Int) ≤ p from h0), nmx_e (show (0 : Int) ≤ p from h0), fnS_f (fun z => q z.1)]
    refine ⟨?_, fun z => absurd z.1 q⟩
    unfold chP
    rw [if_neg q]
theorem arg_cw {f g : Int → Int} {n p : Int} (hfg : AgR f g n) (h0 : 0 ≤ p) : (nm g n (nd g n (nm g n (p, -1) 2).2 32) 1).2 = fnS (cwQ f n p) (cwP f n p) ∧ (cwQ f n p → (nm g n (p, -1) 2).1 = nuV f n p ∧ (nm g n (nd g n (nm g n (p, -1) 2).2 32) 1).1 = sgZ f n (nuP f n p + 1) - 48) := by
  obtain ⟨a1, a2⟩ := arg_n hfg h0
  have hb := nuP_b f n p
  rw [a1]
  by_cases q : dgt (sgZ f n p)
  · rw [fnS_t q]
    obtain ⟨b1, b2⟩ := arg_sd (f := f) (g := g) (n := n) (p := nuP f n p) hfg (by omega)
    refine ⟨?_, fun z => ⟨a2 q, b2 z.2⟩⟩
    rw [b1]
    refine fnS_c ⟨fun z => ⟨q, z⟩, fun z => z.2⟩ ?_
    unfold cwP
    rw [if_pos q]
  · rw [fnS_f q, nd_e (show (0 : Int) ≤ nuP f n p by omega), nmx_e (show (0 : Int) ≤ nuP f n p by omega), fnS_f (fun z => q z.1)]
    refine ⟨?_, fun z => absurd z.1 q⟩
    unfold cwP
    rw [if_neg q]
theorem arg_qu {f g : Int → Int} {n p : Int} (hfg : AgR f g n) (h0 : 0 ≤ p) : (ei g n (nm g n (nd g n (nm g n (p, -1) 2).2 32) 1).2 33 63).2 = fnS (quQ f n p) (quP f n p) ∧ (quQ f n p → (nm g n (p, -1) 2).1 = nuV f n p ∧ (nm g n (nd g n (nm g n (p, -1) 2).2 32) 1).1 = sgZ f n (nuP f n p + 1) - 48 ∧ (ei g n (nm g n (nd g n (nm g n (p, -1) 2).2 32) 1).2 33 63).1 = if sgZ f n (cwP f n p) = 33 then 1 else 0) := by
  obtain ⟨a1, a2⟩ := arg_cw hfg h0
  have hb := cwP_b f n p
  rw [a1]
  by_cases q : cwQ f n p
  · rw [fnS_t q, ei_Z hfg (by omega) (by decide) (by decide)]
    by_cases q1 : sgZ f n (cwP f n p) = 33 ∨ sgZ f n (cwP f n p) = 63
    · rw [if_pos q1]
      refine ⟨?_, fun z => ⟨(a2 q).1, (a2 q).2, rfl⟩⟩
      rw [fnS_t ⟨q, q1⟩]
      unfold quP
      rw [if_pos q, if_pos q1]
    · rw [if_neg q1]
      refine ⟨?_, fun z => absurd z.2 q1⟩
      rw [fnS_f (fun z => q1 z.2)]
      unfold quP
      rw [if_pos q, if_neg q1]
  · rw [fnS_f q, ei_e (show (0 : Int) ≤ cwP f n p by omega), fnS_f (fun z => q z.1)]
    refine ⟨?_, fun z => absurd z.1 q⟩
    unfold quP
    rw [if_neg q]
theorem arg_te {f g : Int → Int} {n p : Int} (hfg : AgR f g n) (h0 : 0 ≤ p) : (nm g n (ei g n (nm g n (nd g n (nm g n (p, -1) 2).2 32) 1).2 43 45).2 1).2 = fnS (teQ f n p) (teP f n p) ∧ (teQ f n p → (nm g n (p, -1) 2).1 = nuV f n p ∧ (nm g n (nd g n (nm g n (p, -1) 2).2 32) 1).1 = sgZ f n (nuP f n p + 1) - 48 ∧ (ei g n (nm g n (nd g n (nm g n (p, -1) 2).2 32) 1).2 43 45).1 = (if sgZ f n (cwP f n p) = 43 then 1 else 0) ∧ (nm g n (ei g n (nm g n (nd g n (nm g n (p, -1) 2).2 32) 1).2 43 45).2 1).1 = sgZ f n (cwP f n p + 1) - 48) := by
  obtain ⟨a1, a2⟩ := arg_cw hfg h0
  have hb := cwP_b f n p
  rw [a1]
  by_cases q : cwQ f n p
  · rw [fnS_t q, ei_Z hfg (by omega) (by decide) (by decide)]
    by_cases q1 : sgZ f n (cwP f n p) = 43 ∨ sgZ f n (cwP f n p) = 45
    · rw [if_pos q1]
      dsimp only
      obtain ⟨b1, b2⟩ := arg_d (f := f) (g := g) (n := n) (p := cwP f n p + 1) hfg (by omega)
      refine ⟨?_, fun z => ⟨(a2 q).1, (a2 q).2, rfl, b2 z.2.2⟩⟩
      rw [b1]
      refine fnS_c ⟨fun z => ⟨q, q1, z⟩, fun z => z.2.2⟩ ?_
      unfold teP dgP
      rw [if_pos q, if_pos q1]
    · rw [if_neg q1]
      dsimp only
      rw [nmx_e (show (0 : Int) ≤ cwP f n p by omega), fnS_f (fun z => q1 z.2.1)]
      refine ⟨?_, fun z => absurd z.2.1 q1⟩
      unfold teP
      rw [if_pos q, if_neg q1]
  · rw [fnS_f q, ei_e (show (0 : Int) ≤ cwP f n p by omega)]
    dsimp only
    rw [nmx_e (show (0 : Int) ≤ cwP f n p by omega), fnS_f (fun z => q z.1)]
    refine ⟨?_, fun z => absurd z.1 q⟩
    unfold teP
    rw [if_neg q]
/-! keywords -/
theorem fwZ_ge {f : Int → Int} {n po : Int} {q : Nat} {j : Int} (hq : q < 7) (h0 : 0 ≤ j) (h1 : j < kwLen q) : j + 1 ≤ fwZ f n po q ↔ j ≤ fwZ f n po q ∧ sgZ f n (po + j) = kwZ q j := by
  have hl := kwLen_b hq
  rcases firstZ_cases (fun j => ¬ sgZ f n (po + j) = kwZ q j) (kwLen q).toNat with ⟨e, h⟩ | ⟨k, k0, k1, k2, k3, e⟩
  · have ef : fwZ f n po q = kwLen q := by unfold fwZ; rw [if_pos e]
    rw [ef]
    exact ⟨fun _ => ⟨by omega, Classical.byContradiction (h j h0 (by omega))⟩, fun _ => by omega⟩
  · have ef : fwZ f n po q = k := by unfold fwZ; rw [if_neg (by omega), e]
    rw [ef]
    constructor
    · intro z
      exact ⟨by omega, Classical.byContradiction (k3 j h0 (by omega))⟩
    · intro z
      by_cases y : j = k
      · subst y
        exact absurd z.2 k2
      · omega
def ndL (g : Int → Int) (n : Int) (s : Int × Int) (L : List Int) : Int × Int := L.foldl (nd g n) s
theorem ndL_e {g : Int → Int} {n : Int} : ∀ {L : List Int} {s : Int × Int}, 0 ≤ s.2 → ndL g n s L = s
  | [], _, _ => rfl
  | c :: L, s, h => by
    show ndL g n (nd g n s c) L = s
    rw [nd_e h]
    exact ndL_e h
theorem ndL_run {f g : Int → Int} {n po : Int} {q : Nat} (hq : q < 7) (hfg : AgR f g n) (hp : 0 ≤ po) : ∀ (L : List Int) (j : Int), 0 ≤ j → j ≤ fwZ f n po q → j + (L.length : Int) ≤ kwLen q → (∀ (m : Nat) (c : Int), L[m]? = some c → c = kwZ q (j + (m : Int)) ∧ 0 < c) →
    ndL g n (po + j, -1) L = if j + (L.length : Int) ≤ fwZ f n po q then (po + (j + (L.length : Int)), -1) else (po + fwZ f n po q, po + fwZ f n po q)
  | [], j, _, h1, _, _ => by
    rw [if_pos (by simpa using h1)]
    show (po + j, (-1 : Int)) = (po + (j + 0), -1)
    rw [Int.add_zero]
  | c :: L, j, h0, h1, h2, h3 => by
    have hl : ((c :: L).length : Int) = (L.length : Int) + 1 := by simp
    rw [hl] at h2 ⊢
    have hc := h3 0 c rfl
    have hc1 : c = kwZ q j := by
      have := hc.1
      rwa [show j + ((0 : Nat) : Int) = j by omega] at this
    have hg := fwZ_ge (f := f) (n := n) (po := po) hq h0 (show j < kwLen q by omega)
    show ndL g n (nd g n (po + j, -1) c) L = _
    rw [nd_Z hfg (by omega) hc.2]
    by_cases e : sgZ f n (po + j) = c
    · rw [if_pos e]
      have h5 : j + 1 ≤ fwZ f n po q := hg.mpr ⟨h1, by rw [e, hc1]⟩
      have ih := ndL_run hq hfg hp L (j + 1) (by omega) h5 (by omega) (fun m d hd => by
        have := h3 (m + 1) d hd
        rwa [show j + ((m + 1 : Nat) : Int) = j + 1 + (m : Int) by omega] at this)
      rw [show po + j + 1 = po + (j + 1) by omega, ih, show j + 1 + (L.length : Int) = j + ((L.length : Int) + 1) by omega]
    · rw [if_neg e]
      have h5 : ¬ j + 1 ≤ fwZ f n po q := fun z => e (by rw [(hg.mp z).2, hc1])
      rw [ndL_e (show (0 : Int) ≤ po + j by omega), if_neg (by omega), show fwZ f n po q = j by omega]
theorem kwF : kwZ 0 0 = 99 ∧ kwZ 1 0 = 119 ∧ kwZ 2 0 = 116 ∧ kwZ 3 0 = 113 ∧ kwZ 4 0 = 100 ∧ kwZ 5 0 = 97 ∧ kwZ 6 0 = 99 ∧ kwZ 0 1 = 104 ∧ kwZ 6 1 = 108 := by decide +kernel
theorem fw_1 {f : Int → Int} {n po : Int} {q : Nat} (hq : q < 7) : 1 ≤ fwZ f n po q ↔ sgZ f n po = kwZ q 0 := by
  have hl := kwLen_b hq
  have hb := fwZ_b f n po hq
  have h := fwZ_ge (f := f) (n := n) (po := po) hq (Int.le_refl 0) (show (0 : Int) < kwLen q by omega)
  rw [show po + 0 = po by omega] at h
  constructor
  · intro z
    exact (h.mp (by omega)).2
  · intro z
    have := h.mpr ⟨hb.1, z⟩
    omega
theorem fw_2 {f : Int → Int} {n po : Int} {q : Nat} (hq : q < 7) : 2 ≤ fwZ f n po q ↔ 1 ≤ fwZ f n po q ∧ sgZ f n (po + 1) = kwZ q 1 := by
  have hl := kwLen_b hq
  exact fwZ_ge (f := f) (n := n) (po := po) hq (show (0 : Int) ≤ 1 by decide) (show (1 : Int) < kwLen q by omega)
