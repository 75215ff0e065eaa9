/-! the reference's sets are the class's groups -/
theorem hrS_bit {co : Nat → Int → Int} {k : Int} {y : Nat} : ∀ n, (hrS co k n).testBit y = true ↔ ∃ j : Int, 0 ≤ j ∧ j < n ∧ (co 7 (k * 6 + j)).toNat = y
  | 0 => by
    unfold hrS
    rw [Nat.zero_testBit]
    exact ⟨fun z => absurd z (by decide), fun ⟨j, a, b, _⟩ => by omega⟩
  | n + 1 => by
    show (hrS co k n ||| 2 ^ (co 7 (k * 6 + (n : Int))).toNat).testBit y = true ↔ _
    rw [Nat.testBit_or, Nat.testBit_two_pow, Bool.or_eq_true, decide_eq_true_eq, hrS_bit n]
    constructor
    · rintro (⟨j, a, b, c⟩ | e)
      · exact ⟨j, a, by omega, c⟩
      · exact ⟨n, by omega, by omega, e⟩
    · rintro ⟨j, a, b, c⟩
      by_cases q : j = n
      · rw [q] at c
        exact Or.inr c
      · exact Or.inl ⟨j, a, by omega, c⟩
theorem and_0 {s t : Nat} : s &&& t = 0 ↔ ∀ i, s.testBit i = true → t.testBit i = true → False := by
  constructor
  · intro e i a b
    have g : (s &&& t).testBit i = true := by rw [Nat.testBit_and, a, b]; rfl
    rw [e, Nat.zero_testBit] at g
    exact absurd g (by decide)
  · intro h
    refine Nat.eq_of_testBit_eq (fun i => ?_)
    rw [Nat.testBit_and, Nat.zero_testBit]
    cases a : s.testBit i
    · rfl
    · cases b : t.testBit i
      · rfl
      · exact (h i a b).elim
abbrev hrT (co : Nat → Int → Int) (k : Int) : Nat := hrS co k (co 6 k).toNat
theorem hrT_hrd {co : Nat → Int → Int} (hO : OkC co) (ts : TsI co) {k : Int} (k0 : 0 ≤ k) (k1 : k < co 0 0) {y : Nat} : (hrT co k).testBit y = true ↔ (y < 8 ∧ hrd co k (y : Int)) := by
  have h6 := hO.b6 k
  have hb0 := hO.b0
  rw [hrS_bit]
  constructor
  · rintro ⟨j, a, b, c⟩
    have g := (ts.a k0 k1 a (by omega)).2.1
    have b7 := hO.b7 (k * 6 + j)
    have e : co 7 (k * 6 + j) = (y : Int) := by omega
    rw [e] at g
    exact ⟨by omega, g⟩
  · rintro ⟨a, b⟩
    obtain ⟨-, j, j0, j1, j2⟩ := ts.2.2.1 k y k0 (by omega) (by omega) (by omega) b
    exact ⟨j, j0, by omega, by omega⟩
theorem psS_s (co : Nat → Int → Int) (s k : Nat) : psS co s (k + 1) = psS co s k ||| (if psS co s k &&& hrT co (k : Int) = 0 then 0 else hrT co (k : Int)) := rfl
theorem psS_bit (co : Nat → Int → Int) (s k y : Nat) : (psS co s (k + 1)).testBit y = true ↔ (psS co s k).testBit y = true ∨ (¬ psS co s k &&& hrT co (k : Int) = 0 ∧ (hrT co (k : Int)).testBit y = true) := by
  rw [psS_s, Nat.testBit_or, Bool.or_eq_true]
  by_cases q : psS co s k &&& hrT co (k : Int) = 0
  · rw [if_pos q, Nat.zero_testBit]
    exact ⟨fun z => z.elim Or.inl (fun w => absurd w (by decide)), fun z => z.elim Or.inl (fun w => absurd q w.1)⟩
  · rw [if_neg q]
    exact ⟨fun z => z.elim Or.inl (fun w => Or.inr ⟨q, w⟩), fun z => z.elim Or.inl (fun w => Or.inr w.2)⟩
theorem psS_mono {co : Nat → Int → Int} {s y : Nat} {k : Nat} : ∀ d, (psS co s k).testBit y = true → (psS co s (k + d)).testBit y = true
  | 0, h => h
  | d + 1, h => (psS_bit co s (k + d) y).mpr (Or.inl (psS_mono d h))
theorem psS_sound {co : Nat → Int → Int} (hO : OkC co) (ts : TsI co) {s : Nat} {w : Int} (h : ∀ y : Nat, s.testBit y = true → Conn co w y) : ∀ k : Nat, (k : Int) ≤ co 0 0 → ∀ y : Nat, (psS co s k).testBit y = true → Conn co w y
  | 0, _, y, q => h y q
  | k + 1, hk, y, q => by
    rcases (psS_bit co s k y).mp q with a | ⟨a, b⟩
    · exact psS_sound hO ts h k (by omega) y a
    · obtain ⟨x, x1, x2⟩ : ∃ x, (psS co s k).testBit x = true ∧ (hrT co (k : Int)).testBit x = true := by
        apply Classical.byContradiction
        intro n
        exact a (and_0.mpr (fun i i1 i2 => n ⟨i, i1, i2⟩))
      have g1 := (hrT_hrd hO ts (k := (k : Int)) (by omega) (by omega)).mp x2
      have g2 := (hrT_hrd hO ts (k := (k : Int)) (by omega) (by omega)).mp b
      exact (psS_sound hO ts h k (by omega) x x1).trans (Conn.one (k := (k : Int)) (by omega) (by omega) (by omega) (by omega) (by omega) (by omega) g1.2 g2.2)
theorem psS_closed {co : Nat → Int → Int} (hO : OkC co) (ts : TsI co) {s : Nat} (h : psS co s (co 0 0).toNat = s) {k x y : Int} (k0 : 0 ≤ k) (k1 : k < co 0 0) (x0 : 0 ≤ x) (x1 : x < 8) (y0 : 0 ≤ y) (y1 : y < 8) (hx : hrd co k x) (hy : hrd co k y) (sx : s.testBit x.toNat = true) : s.testBit y.toNat = true := by
  have tx : (hrT co k).testBit x.toNat = true := (hrT_hrd hO ts k0 k1).mpr ⟨by omega, by rw [Int.toNat_of_nonneg x0]; exact hx⟩
  have ty : (hrT co k).testBit y.toNat = true := (hrT_hrd hO ts k0 k1).mpr ⟨by omega, by rw [Int.toNat_of_nonneg y0]; exact hy⟩
  have px : (psS co s (0 + k.toNat)).testBit x.toNat = true := psS_mono k.toNat sx
  rw [Nat.zero_add] at px
  have ek : ((k.toNat : Nat) : Int) = k := Int.toNat_of_nonneg k0
  have py : (psS co s (k.toNat + 1)).testBit y.toNat = true := (psS_bit co s k.toNat y.toNat).mpr (Or.inr ⟨fun z => and_0.mp z x.toNat px (by rw [ek]; exact tx), by rw [ek]; exact ty⟩)
  have pn := psS_mono (k := k.toNat + 1) ((co 0 0).toNat - (k.toNat + 1)) py
  rw [show k.toNat + 1 + ((co 0 0).toNat - (k.toNat + 1)) = (co 0 0).toNat by omega, h] at pn
  exact pn
theorem bit_hi {s i : Nat} (hs : s < 256) (hi : 8 ≤ i) : s.testBit i = false := by
  rw [Nat.testBit_eq_decide_div_mod_eq]
  have : 2 ^ 8 ≤ 2 ^ i := Nat.pow_le_pow_right (by decide) hi
  rw [Nat.div_eq_of_lt (by omega)]
  rfl
def pcS (s : Nat) : Int := sumZ (fun i => bz (s.testBit i.toNat = true)) 8
theorem pcS_b (s : Nat) : 0 ≤ pcS s ∧ pcS s ≤ 8 := by
  have h := sumZ_b (f := fun i => bz (s.testBit i.toNat = true)) (lo := 0) (hi := 1) (n := 8) (fun i _ _ => bz_rg)
  unfold pcS
  omega
theorem sumZ_eq {f g : Int → Int} : ∀ {n : Nat}, (∀ i : Int, 0 ≤ i → i < n → f i ≤ g i) → sumZ g n ≤ sumZ f n → ∀ i : Int, 0 ≤ i → i < n → f i = g i
  | 0, _, _, i, a, b => by omega
  | n + 1, q, h, i, a, b => by
    rw [sumZ_s, sumZ_s] at h
    have l := sumZ_le (f := f) (g := g) (n := n) (fun i a b => q i a (by omega))
    have ln := q n (by omega) (by omega)
    by_cases e : i = n
    · rw [e]
      omega
    · exact sumZ_eq (n := n) (fun i a b => q i a (by omega)) (by omega) i a (by omega)
theorem pcS_lt {s t : Nat} (hs : s < 256) (ht : t < 256) (h : ∀ i, s.testBit i = true → t.testBit i = true) (ne : ¬ t = s) : pcS s + 1 ≤ pcS t := by
  apply Classical.byContradiction
  intro c
  refine ne (Nat.eq_of_testBit_eq (fun i => ?_))
  have le : ∀ i : Int, 0 ≤ i → i < (8 : Nat) → bz (s.testBit i.toNat = true) ≤ bz (t.testBit i.toNat = true) := fun i _ _ => by
    by_cases q : s.testBit i.toNat = true
    · rw [bz_t q, bz_t (h _ q)]
      exact Int.le_refl _
    · rw [bz_f q]
      exact bz_rg.1
  have eq := sumZ_eq le (by unfold pcS at c; omega)
  by_cases q : i < 8
  · have e := eq (i : Int) (by omega) (by omega)
    rw [Int.toNat_natCast] at e
    cases a : s.testBit i
    · cases b : t.testBit i
      · rfl
      · rw [bz_f (by rw [a]; decide), bz_t b] at e
        exact absurd e (by decide)
    · exact h i a
  · rw [bit_hi hs (by omega), bit_hi ht (by omega)]
theorem gp_up {co : Nat → Int → Int} {w : Nat} {y : Nat} (r : Nat) (h : (gpS co w r).testBit y = true) : (gpS co w (r + 1)).testBit y = true := by
  have g : (psS co (gpS co w r) (0 + (co 0 0).toNat)).testBit y = true := psS_mono _ h
  rw [Nat.zero_add] at g
  exact g
theorem pcS_2 {w : Nat} (hw : w < 8) : 1 ≤ pcS (2 ^ w) := by
  have e := sumZ_1 (f := fun i => bz ((2 ^ w).testBit i.toNat = true)) (n := 8) (a := (w : Int)) (by omega) (by omega) (fun i i0 i1 ne => bz_f (fun z => by
    rw [Nat.testBit_two_pow, decide_eq_true_eq] at z
    omega))
  have e2 : bz ((2 ^ w).testBit ((w : Nat) : Int).toNat = true) = 1 := bz_t (by rw [Nat.testBit_two_pow, decide_eq_true_eq, Int.toNat_natCast])
  unfold pcS
  rw [e, e2]
  exact Int.le_refl _
theorem gp_grow {co : Nat → Int → Int} (hO : OkC co) {w : Nat} (hw : w < 8) : ∀ r : Nat, (∃ q : Nat, q < r ∧ gpS co w (q + 1) = gpS co w q) ∨ (r : Int) + 1 ≤ pcS (gpS co w r)
  | 0 => by
    have e := pcS_2 hw
    have e2 : gpS co w 0 = 2 ^ w := rfl
    rw [e2]
    exact Or.inr (by omega)
  | r + 1 => by
    rcases gp_grow hO hw r with ⟨q, a, b⟩ | h
    · exact Or.inl ⟨q, by omega, b⟩
    · by_cases e : gpS co w (r + 1) = gpS co w r
      · exact Or.inl ⟨r, by omega, e⟩
      · have g := pcS_lt (gpS_lt hO hw r) (gpS_lt hO hw (r + 1)) (fun i => gp_up r) e
        exact Or.inr (by omega)
theorem gp_fix {co : Nat → Int → Int} {w q : Nat} (h : gpS co w (q + 1) = gpS co w q) : ∀ d, gpS co w (q + d) = gpS co w q
  | 0 => rfl
  | d + 1 => by
    show psS co (gpS co w (q + d)) (co 0 0).toNat = _
    rw [gp_fix h d]
    exact h
theorem gp_end {co : Nat → Int → Int} (hO : OkC co) {w : Nat} (hw : w < 8) : psS co (gpS co w 8) (co 0 0).toNat = gpS co w 8 := by
  rcases gp_grow hO hw 8 with ⟨q, a, b⟩ | h
  · have e := gp_fix b (8 - q)
    rw [show q + (8 - q) = 8 by omega] at e
    rw [e]
    exact b
  · have := pcS_b (gpS co w 8)
    omega
theorem gp_sound {co : Nat → Int → Int} (hO : OkC co) (ts : TsI co) {w : Nat} : ∀ r y : Nat, (gpS co w r).testBit y = true → Conn co w y
  | 0, y, h => by
    have h : (2 ^ w).testBit y = true := h
    rw [Nat.testBit_two_pow, decide_eq_true_eq] at h
    rw [h]
    exact Conn.rfl' _
  | r + 1, y, h => psS_sound hO ts (fun y => gp_sound hO ts r y) (co 0 0).toNat (by have := hO.b0; omega) y h
theorem gp_self {co : Nat → Int → Int} {w : Nat} : ∀ r, (gpS co w r).testBit w = true
  | 0 => by
    show (2 ^ w).testBit w = true
    rw [Nat.testBit_two_pow, decide_eq_true_eq]
  | r + 1 => gp_up r (gp_self r)
theorem gpB_iff {co : Nat → Int → Int} (hO : OkC co) (ts : TsI co) {w y : Int} (w0 : 0 ≤ w) (w1 : w < 8) (y0 : 0 ≤ y) : gpB co w y ↔ Conn co w y := by
  constructor
  · intro h
    have g := gp_sound hO ts 8 y.toNat h
    rw [Int.toNat_of_nonneg w0, Int.toNat_of_nonneg y0] at g
    exact g
  · intro c
    exact c (fun x => (gpS co w.toNat 8).testBit x.toNat = true) (gp_self 8) (fun k x z k0 k1 x0 x1 z0 z1 hx hz sx => psS_closed hO ts (gp_end hO (by omega)) k0 k1 x0 x1 z0 z1 hx hz sx)
theorem TsI.hn {co : Nat → Int → Int} (hO : OkC co) (ts : TsI co) {k x : Int} (k0 : 0 ≤ k) (k1 : k < co 0 0) (x0 : 0 ≤ x) (x1 : x < 8) (h : hrd co k x) : x < co 0 1 := by
  have hb0 := hO.b0
  obtain ⟨-, j, j0, j1, j2⟩ := ts.2.2.1 k x k0 (by omega) x0 x1 h
  have := (ts.1 k j k0 k1 j0 j1).1
  omega
theorem sumZ_z (n : Nat) : sumZ (fun _ => 0) n = 0 := by
  have := sumZ_b (f := fun _ => 0) (lo := 0) (hi := 0) (n := n) (fun _ _ _ => ⟨Int.le_refl _, Int.le_refl _⟩)
  omega
theorem sumZ_swap {M : Int → Int → Int} {m : Nat} : ∀ n : Nat, sumZ (fun k => sumZ (fun j => M k j) m) n = sumZ (fun j => sumZ (fun k => M k j) n) m
  | 0 => (sumZ_z m).symm
  | n + 1 => by
    rw [sumZ_s, sumZ_swap n]
    exact (sumZ_add (fun i _ _ => sumZ_s _ _)).symm
theorem gp_inv {co : Nat → Int → Int} (h : InvD co) : GpI co := by
  have hO := h.inv.ok
  have ts := h.inv.ts
  have gr := h.inv.gr
  have hbw := hO.bw
  have hl := gr.lt hO
  have one : ∀ w y : Int, 0 ≤ w → w < co 0 1 → 0 ≤ y → y < co 0 1 → (gpB co w y ↔ rtF (co 13) 8 w = rtF (co 13) 8 y) := fun w y w0 w1 y0 y1 => (gpB_iff hO ts w0 (by omega) y0).trans (gr.2 w y w0 w1 y0 y1).symm
  refine ⟨one, fun w y w0 w1 y0 y1 q => ?_, ?_⟩
  · have c := (gpB_iff hO ts w0 (by omega) (by omega)).mp q
    have g : y < co 0 1 := c (fun x => x < co 0 1) w1 (fun k x z k0 k1 x0 x1 z0 z1 hx hz _ => ts.hn hO k0 k1 z0 z1 hz)
    omega
  · obtain ⟨N, hN⟩ : ∃ N : Nat, N = (co 0 1).toNat := ⟨_, rfl⟩
    obtain ⟨R, hR⟩ : ∃ R : Int → Int, R = rtF (co 13) 8 := ⟨_, rfl⟩
    obtain ⟨ls, hls⟩ : ∃ ls : Int → Int, ls = fun k => firstZ (fun i => R i = R k) N := ⟨_, rfl⟩
    have lsf : ∀ k, 0 ≤ k → k < (N : Int) → 0 ≤ ls k ∧ ls k ≤ k ∧ R (ls k) = R k ∧ (∀ y, 0 ≤ y → y < ls k → ¬ R y = R k) := fun k k0 k1 => by
      rw [hls]
      show 0 ≤ firstZ (fun i => R i = R k) N ∧ firstZ (fun i => R i = R k) N ≤ k ∧ R (firstZ (fun i => R i = R k) N) = R k ∧ (∀ y, 0 ≤ y → y < firstZ (fun i => R i = R k) N → ¬ R y = R k)
      rcases firstZ_cases (fun i => R i = R k) N with ⟨_, g⟩ | ⟨i, i0, i1, i2, i3, i4⟩
      · exact absurd rfl (g k k0 k1)
      · rw [i4]
        refine ⟨i0, ?_, i2, i3⟩
        apply Classical.byContradiction
        intro c
        exact i3 k k0 (by omega) rfl
    have lsc : ∀ k x, R k = R x → ls k = ls x := fun k x e => by
      rw [hls]
      show firstZ (fun i => R i = R k) N = firstZ (fun i => R i = R x) N
      rw [e]
    have Rr : ∀ k, 0 ≤ k → k < (N : Int) → 0 ≤ R k ∧ R k < (N : Int) ∧ co 13 (R k) = R k := fun k k0 k1 => by
      rw [hR]
      have g := rtF_lt hl 8 k k0 (by omega)
      exact ⟨g.1, by omega, gr.root k0 (by omega)⟩
    have RR : ∀ j, co 13 j = j → R j = j := fun j e => by
      rw [hR]
      exact rtF_root 8 j e
    have lt : ∀ k : Int, 0 ≤ k → k < (N : Int) → bz (gpS co (Int.toNat k) 8 &&& (2 ^ Int.toNat k - 1) = 0) = bz (ls k = k) := fun k k0 k1 => by
      have f := lsf k k0 k1
      by_cases q : ls k = k
      · rw [bz_t q]
        refine bz_t (and_0.mpr (fun i a b => ?_))
        rw [Nat.testBit_two_pow_sub_one, decide_eq_true_eq] at b
        have g := (one k (i : Int) k0 (by omega) (by omega) (by omega)).mp (by show (gpS co (Int.toNat k) 8).testBit ((i : Int)).toNat = true; rw [Int.toNat_natCast]; exact a)
        rw [← hR] at g
        exact f.2.2.2 (i : Int) (by omega) (by omega) g.symm
      · rw [bz_f q]
        refine bz_f (fun z => ?_)
        have g := (one k (ls k) k0 (by omega) f.1 (by omega)).mpr (by rw [← hR]; exact f.2.2.1.symm)
        refine and_0.mp z (ls k).toNat g ?_
        rw [Nat.testBit_two_pow_sub_one, decide_eq_true_eq]
        omega
    rw [← hN, sumZ_c lt]
    have rows : ∀ k : Int, 0 ≤ k → k < (N : Int) → bz (ls k = k) = sumZ (fun j => bz (ls k = k ∧ R k = j)) N := fun k k0 k1 => by
      have r := Rr k k0 k1
      rw [sumZ_1 (a := R k) r.1 r.2.1 (fun i _ _ ne => bz_f (fun z => ne z.2.symm))]
      by_cases q : ls k = k
      · rw [bz_t q, bz_t ⟨q, rfl⟩]
      · rw [bz_f q, bz_f (fun z => q z.1)]
    have cols : ∀ j : Int, 0 ≤ j → j < (N : Int) → sumZ (fun k => bz (ls k = k ∧ R k = j)) N = bz (co 13 j = j) := fun j j0 j1 => by
      by_cases q : co 13 j = j
      · have f := lsf j j0 j1
        rw [bz_t q, sumZ_1 (a := ls j) f.1 (by omega) (fun i i0 i1 ne => bz_f (fun z => ne (by
          rw [← z.1]
          exact lsc i j (by rw [RR j q]; exact z.2)))) ]
        exact bz_t ⟨lsc _ _ f.2.2.1, by rw [f.2.2.1]; exact RR j q⟩
      · rw [bz_f q, ← sumZ_z N]
        exact sumZ_c (fun k k0 k1 => bz_f (fun z => q (by
          have r := (Rr k k0 k1).2.2
          rw [z.2] at r
          exact r)))
    rw [sumZ_c rows, sumZ_swap, sumZ_c cols]

