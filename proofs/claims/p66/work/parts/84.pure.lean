/-! the law's sets of witnesses -/
abbrev nZ (M : Int → Nat) : Int → Int := fun j => ((M j : Nat) : Int)
def updN (M : Int → Nat) (i : Int) (v : Nat) : Int → Nat := fun j => if j = i then v else M j
theorem updN_at (M : Int → Nat) (i : Int) (v : Nat) : updN M i v i = v := if_pos rfl
theorem updN_ne (M : Int → Nat) {i j : Int} (v : Nat) (h : j ≠ i) : updN M i v j = M j := if_neg h
theorem nZ_upd {M : Int → Nat} {i : Int} {v : Nat} : updZ (nZ M) i ((v : Nat) : Int) = nZ (updN M i v) := by
  funext j
  show (if j = i then ((v : Nat) : Int) else ((M j : Nat) : Int)) = (((if j = i then v else M j) : Nat) : Int)
  split <;> rfl
def mtA (n : Nat) : Int → Nat := fun j => if 0 ≤ j ∧ j < n then 2 ^ Int.toNat j else 0
theorem mtA_s (n : Nat) : updN (mtA n) (n : Int) (2 ^ Int.toNat (n : Int)) = mtA (n + 1) := by
  funext j
  unfold updN mtA
  by_cases h : j = (n : Int)
  · rw [if_pos h, if_pos (by omega), h]
  · rw [if_neg h]
    by_cases h2 : 0 ≤ j ∧ j < (n : Int)
    · rw [if_pos h2, if_pos (by omega)]
    · rw [if_neg h2, if_neg (by omega)]
theorem mtA_lt {n : Nat} (hn : n ≤ 8) (j : Int) : mtA n j < 256 := by
  unfold mtA
  split
  · exact pow8 (by omega)
  · decide
/-- the law's row of sets behind c cases -/
def meF (co : Nat → Int → Int) : Nat → Int → Nat
  | 0 => mtA (co 0 1).toNat
  | c + 1 => fun w => if 0 ≤ w ∧ w < co 0 1 then meF co c w ||| (if (hrT co (c : Int)).testBit (Int.toNat w) = true then hrT co (c : Int) else 0) else meF co c w
def meP (co : Nat → Int → Int) (c : Nat) (i : Nat) : Int → Nat := fun w => if 0 ≤ w ∧ w < i then meF co (c + 1) w else meF co c w
theorem meP_0 (co : Nat → Int → Int) (c : Nat) : meP co c 0 = meF co c := by
  funext w
  unfold meP
  rw [if_neg (by omega)]
theorem meP_s (co : Nat → Int → Int) (c i : Nat) (hi : (i : Int) < co 0 1) : updN (meP co c i) (i : Int) (meP co c i (i : Int) ||| (if (hrT co (c : Int)).testBit (Int.toNat (i : Int)) = true then hrT co (c : Int) else 0)) = meP co c (i + 1) := by
  funext w
  by_cases h : w = (i : Int)
  · subst h
    have e1 : meP co c i (i : Int) = meF co c (i : Int) := if_neg (by omega)
    have e2 : meP co c (i + 1) (i : Int) = meF co (c + 1) (i : Int) := if_pos (by omega)
    rw [updN_at, e1, e2]
    exact (if_pos (by omega : 0 ≤ (i : Int) ∧ (i : Int) < co 0 1)).symm
  · rw [updN_ne _ _ h]
    unfold meP
    by_cases h2 : 0 ≤ w ∧ w < (i : Int)
    · rw [if_pos h2, if_pos (by omega)]
    · rw [if_neg h2, if_neg (by omega)]
theorem meP_e (co : Nat → Int → Int) (c : Nat) : meP co c (co 0 1).toNat = meF co (c + 1) := by
  funext w
  unfold meP
  by_cases h : 0 ≤ w ∧ w < ((co 0 1).toNat : Int)
  · rw [if_pos h]
  · rw [if_neg h]
    show _ = (if 0 ≤ w ∧ w < co 0 1 then _ else meF co c w)
    rw [if_neg (by omega)]
theorem meF_lt {co : Nat → Int → Int} (hO : OkC co) : ∀ (c : Nat) (w : Int), meF co c w < 256
  | 0, w => mtA_lt (by have := hO.bw; omega) w
  | c + 1, w => by
    unfold meF
    split
    · refine or8 (meF_lt hO c w) ?_
      split
      · exact hrS_lt hO _ _
      · decide
    · exact meF_lt hO c w
theorem meP_lt {co : Nat → Int → Int} (hO : OkC co) (c i : Nat) (w : Int) : meP co c i w < 256 := by
  unfold meP
  split
  · exact meF_lt hO _ w
  · exact meF_lt hO _ w
theorem tb_or {a b i : Nat} : (a ||| b).testBit i = true ↔ a.testBit i = true ∨ b.testBit i = true := by rw [Nat.testBit_or, Bool.or_eq_true]
theorem tb_if {p : Prop} [Decidable p] {a i : Nat} : (if p then a else 0).testBit i = true ↔ p ∧ a.testBit i = true := by
  by_cases h : p
  · rw [if_pos h]; exact ⟨fun z => ⟨h, z⟩, fun z => z.2⟩
  · rw [if_neg h]; simp [h]
theorem meF_bit {co : Nat → Int → Int} (hO : OkC co) (ts : TsI co) {w : Int} (w0 : 0 ≤ w) (w1 : w < co 0 1) : ∀ (c : Nat), (c : Int) ≤ co 0 0 → ∀ y : Nat, (meF co c w).testBit y = true ↔ (y = w.toNat ∨ ∃ k : Int, 0 ≤ k ∧ k < c ∧ hrd co k w ∧ y < 8 ∧ hrd co k (y : Int))
  | 0, _, y => by
    show (mtA (co 0 1).toNat w).testBit y = true ↔ _
    unfold mtA
    rw [if_pos (by omega), Nat.testBit_two_pow]
    constructor
    · intro h
      exact Or.inl (of_decide_eq_true h).symm
    · intro h
      rcases h with h | ⟨k, k0, k1, -⟩
      · simpa using h.symm
      · omega
  | c + 1, hc, y => by
    have I := meF_bit hO ts w0 w1 c (by omega) y
    have hbw := hO.bw
    unfold meF
    rw [if_pos ⟨w0, w1⟩, tb_or, tb_if, I, hrT_hrd hO ts (by omega) (by omega), hrT_hrd hO ts (by omega) (by omega)]
    have ew : ((w.toNat : Nat) : Int) = w := by omega
    rw [ew]
    constructor
    · intro h
      rcases h with (h | ⟨k, k0, k1, h⟩) | ⟨⟨-, h1⟩, h2, h3⟩
      · exact Or.inl h
      · exact Or.inr ⟨k, k0, by omega, h⟩
      · exact Or.inr ⟨(c : Int), by omega, by omega, h1, h2, h3⟩
    · intro h
      rcases h with h | ⟨k, k0, k1, h1, h2, h3⟩
      · exact Or.inl (Or.inl h)
      · by_cases e : k = (c : Int)
        · subst e
          exact Or.inr ⟨⟨by omega, h1⟩, h2, h3⟩
        · exact Or.inl (Or.inr ⟨k, k0, by omega, h1, h2, h3⟩)
/-- one witness's set, its members' sets added one after the other -/
def ciF (M : Int → Nat) (w : Int) : Nat → Nat
  | 0 => M w
  | n + 1 => ciF M w n ||| (if (ciF M w n).testBit n = true then (if (n : Int) = w then ciF M w n else M (n : Int)) else 0)
def roF (co : Nat → Int → Int) (M : Int → Nat) : Nat → Int → Nat
  | 0 => M
  | n + 1 => updN (roF co M n) (n : Int) (ciF (roF co M n) (n : Int) (co 0 1).toNat)
def clF (co : Nat → Int → Int) (M : Int → Nat) : Nat → Int → Nat
  | 0 => M
  | r + 1 => roF co (clF co M r) (co 0 1).toNat
theorem ciF_lt {M : Int → Nat} (h : ∀ j, M j < 256) (w : Int) : ∀ n, ciF M w n < 256
  | 0 => h w
  | n + 1 => by
    refine or8 (ciF_lt h w n) ?_
    split
    · split
      · exact ciF_lt h w n
      · exact h _
    · decide
theorem roF_lt {co : Nat → Int → Int} {M : Int → Nat} (h : ∀ j, M j < 256) : ∀ (n : Nat) (j : Int), roF co M n j < 256
  | 0, j => h j
  | n + 1, j => by
    show updN _ _ _ j < 256
    unfold updN
    split
    · exact ciF_lt (roF_lt h n) _ _
    · exact roF_lt h n j
theorem clF_lt {co : Nat → Int → Int} {M : Int → Nat} (h : ∀ j, M j < 256) : ∀ (r : Nat) (j : Int), clF co M r j < 256
  | 0, j => h j
  | r + 1, j => roF_lt (clF_lt h r) _ j
theorem ci_mono {M : Int → Nat} {w : Int} {y : Nat} : ∀ n, (M w).testBit y = true → (ciF M w n).testBit y = true
  | 0, h => h
  | n + 1, h => tb_or.mpr (Or.inl (ci_mono n h))
theorem ci_up {M : Int → Nat} {w : Int} {y n : Nat} : ∀ d, (ciF M w n).testBit y = true → (ciF M w (n + d)).testBit y = true
  | 0, h => h
  | d + 1, h => tb_or.mpr (Or.inl (ci_up d h))
theorem ci_full {M : Int → Nat} {w : Int} {y v n : Nat} (hv : v < n) (h : (M w).testBit v = true) (hy : (M (v : Int)).testBit y = true) : (ciF M w n).testBit y = true := by
  have h1 := ci_mono v h
  have h2 : (ciF M w (v + 1)).testBit y = true := by
    refine tb_or.mpr ?_
    by_cases e : (v : Int) = w
    · refine Or.inl (ci_mono v ?_)
      rw [← e]
      exact hy
    · refine Or.inr ?_
      rw [if_pos h1, if_neg e]
      exact hy
  obtain ⟨d, rfl⟩ : ∃ d, n = v + 1 + d := ⟨n - (v + 1), by omega⟩
  exact ci_up d h2
theorem ro_mono {co : Nat → Int → Int} {M : Int → Nat} {w : Int} {y : Nat} : ∀ n, (M w).testBit y = true → (roF co M n w).testBit y = true
  | 0, h => h
  | n + 1, h => by
    show (updN _ _ _ w).testBit y = true
    unfold updN
    split
    · rename_i e
      rw [← e]
      exact ci_mono _ (ro_mono n h)
    · exact ro_mono n h
theorem ro_after {co : Nat → Int → Int} {M : Int → Nat} {w : Nat} : ∀ d, roF co M (w + 1 + d) (w : Int) = ciF (roF co M w) (w : Int) (co 0 1).toNat
  | 0 => updN_at _ _ _
  | d + 1 => by
    show updN (roF co M (w + 1 + d)) ((w + 1 + d : Nat) : Int) _ (w : Int) = _
    rw [updN_ne _ _ (by omega)]
    exact ro_after d
/-- members' sets are in it behind a round -/
theorem ro_full {co : Nat → Int → Int} {M : Int → Nat} {w v y : Nat} (hw : (w : Int) < co 0 1) (hv : (v : Int) < co 0 1) (h : (M (w : Int)).testBit v = true) (hy : (M (v : Int)).testBit y = true) : (roF co M (co 0 1).toNat (w : Int)).testBit y = true := by
  obtain ⟨d, e⟩ : ∃ d, (co 0 1).toNat = w + 1 + d := ⟨(co 0 1).toNat - (w + 1), by omega⟩
  have r := ro_after (co := co) (M := M) (w := w) d
  rw [← e] at r
  rw [r]
  exact ci_full (by omega) (ro_mono w h) (ro_mono w hy)
theorem cl_mono {co : Nat → Int → Int} {M : Int → Nat} {w : Int} {y r : Nat} : ∀ d, (clF co M r w).testBit y = true → (clF co M (r + d) w).testBit y = true
  | 0, h => h
  | d + 1, h => ro_mono _ (cl_mono d h)
theorem ci_sound {co : Nat → Int → Int} {M : Int → Nat} (h : ∀ w : Int, 0 ≤ w → w < co 0 1 → ∀ y : Nat, (M w).testBit y = true → Conn co w y) {w : Int} (w0 : 0 ≤ w) (w1 : w < co 0 1) : ∀ n : Nat, (n : Int) ≤ co 0 1 → ∀ y : Nat, (ciF M w n).testBit y = true → Conn co w y
  | 0, _, y, hy => h w w0 w1 y hy
  | n + 1, hn, y, hy => by
    have I := ci_sound h w0 w1 n (by omega)
    rcases tb_or.mp hy with q | q
    · exact I y q
    · obtain ⟨q1, q2⟩ := tb_if.mp q
      by_cases e : (n : Int) = w
      · rw [if_pos e] at q2
        exact I y q2
      · rw [if_neg e] at q2
        exact (I n q1).trans (h (n : Int) (by omega) (by omega) y q2)
theorem ro_sound {co : Nat → Int → Int} {M : Int → Nat} (h : ∀ w : Int, 0 ≤ w → w < co 0 1 → ∀ y : Nat, (M w).testBit y = true → Conn co w y) : ∀ n : Nat, ∀ w : Int, 0 ≤ w → w < co 0 1 → ∀ y : Nat, (roF co M n w).testBit y = true → Conn co w y
  | 0, w, w0, w1, y, hy => h w w0 w1 y hy
  | n + 1, w, w0, w1, y, hy => by
    have hy : (updN (roF co M n) (n : Int) (ciF (roF co M n) (n : Int) (co 0 1).toNat) w).testBit y = true := hy
    unfold updN at hy
    split at hy
    · rename_i e
      rw [e]
      exact ci_sound (ro_sound h n) (by omega) (by omega) _ (by omega) y hy
    · exact ro_sound h n w w0 w1 y hy
theorem cl_sound {co : Nat → Int → Int} {M : Int → Nat} (h : ∀ w : Int, 0 ≤ w → w < co 0 1 → ∀ y : Nat, (M w).testBit y = true → Conn co w y) : ∀ r : Nat, ∀ w : Int, 0 ≤ w → w < co 0 1 → ∀ y : Nat, (clF co M r w).testBit y = true → Conn co w y
  | 0 => h
  | r + 1 => ro_sound (cl_sound h r) _
theorem pcS_1 {s w : Nat} (hs : s < 256) (hw : w < 8) (h : s.testBit w = true) : 1 ≤ pcS s := by
  have h2 := pcS_2 hw
  by_cases e : s = 2 ^ w
  · rw [e]; exact h2
  · have := pcS_lt (s := 2 ^ w) (t := s) (pow8 hw) hs (fun i q => by
      rw [Nat.testBit_two_pow] at q
      have : w = i := by simpa using q
      rw [← this]
      exact h) e
    omega
/-- eight rounds: the set of all that are connected -/
theorem cl_end {co : Nat → Int → Int} (hO : OkC co) (ts : TsI co) {w : Int} (w0 : 0 ≤ w) (w1 : w < co 0 1) : clF co (meF co (co 0 0).toNat) 8 w = gpS co (Int.toNat w) 8 := by
  have hbw := hO.bw
  have hb0 := hO.b0
  have B := fun (w : Int) (w0 : 0 ≤ w) (w1 : w < co 0 1) (y : Nat) => meF_bit hO ts w0 w1 (co 0 0).toNat (by omega) y
  have ew : ((w.toNat : Nat) : Int) = w := by omega
  have hS : ∀ w : Int, 0 ≤ w → w < co 0 1 → ∀ y : Nat, (meF co (co 0 0).toNat w).testBit y = true → Conn co w y := by
    intro w w0 w1 y hy
    rcases (B w w0 w1 y).mp hy with e | ⟨k, k0, k1, h1, h2, h3⟩
    · rw [e, Int.toNat_of_nonneg w0]
      exact Conn.rfl' w
    · exact Conn.one k0 (by omega) w0 (by omega) (by omega) (by omega) h1 h3
  have hlt := fun r => clF_lt (co := co) (meF_lt hO (co 0 0).toNat) r
  have self : ∀ r, (clF co (meF co (co 0 0).toNat) r w).testBit w.toNat = true := fun r => by
    have := cl_mono (co := co) (M := meF co (co 0 0).toNat) (w := w) (y := w.toNat) (r := 0) r ((B w w0 w1 _).mpr (Or.inl rfl))
    rwa [Nat.zero_add] at this
  -- a round that adds nothing: closed
  have closed : ∀ r, clF co (meF co (co 0 0).toNat) (r + 1) w = clF co (meF co (co 0 0).toNat) r w → ∀ y : Nat, Conn co w y → (clF co (meF co (co 0 0).toNat) r w).testBit y = true := by
    intro r hr y hy
    refine hy (fun z => (clF co (meF co (co 0 0).toNat) r w).testBit z.toNat = true) (self r) (fun k a b k0 k1 a0 a1 b0 b1 ha hb sa => ?_)
    have ha1 := TsI.hn hO ts k0 k1 a0 a1 ha
    have hM : (meF co (co 0 0).toNat a).testBit b.toNat = true := (B a a0 ha1 _).mpr (Or.inr ⟨k, k0, by omega, ha, by omega, by rw [Int.toNat_of_nonneg b0]; exact hb⟩)
    have hM2 := cl_mono (co := co) (M := meF co (co 0 0).toNat) (w := a) (y := b.toNat) (r := 0) r hM
    rw [Nat.zero_add] at hM2
    have q := ro_full (co := co) (M := clF co (meF co (co 0 0).toNat) r) (w := w.toNat) (v := a.toNat) (y := b.toNat) (by omega) (by omega) (by rw [ew]; exact sa) (by rw [Int.toNat_of_nonneg a0]; exact hM2)
    rw [ew] at q
    have q2 : (clF co (meF co (co 0 0).toNat) (r + 1) w).testBit b.toNat = true := q
    rw [hr] at q2
    exact q2
  have grow : ∀ r : Nat, (∃ q : Nat, q < r ∧ clF co (meF co (co 0 0).toNat) (q + 1) w = clF co (meF co (co 0 0).toNat) q w) ∨ (r : Int) + 1 ≤ pcS (clF co (meF co (co 0 0).toNat) r w) := by
    intro r
    induction r with
    | zero => exact Or.inr (by have := pcS_1 (hlt 0 w) (by omega) (self 0); omega)
    | succ r ih =>
      rcases ih with ⟨q, q1, q2⟩ | ih
      · exact Or.inl ⟨q, by omega, q2⟩
      · by_cases e : clF co (meF co (co 0 0).toNat) (r + 1) w = clF co (meF co (co 0 0).toNat) r w
        · exact Or.inl ⟨r, by omega, e⟩
        · have := pcS_lt (hlt r w) (hlt (r + 1) w) (fun i hi => cl_mono 1 hi) e
          exact Or.inr (by omega)
  refine Nat.eq_of_testBit_eq (fun y => ?_)
  have hg := gpB_iff hO ts (w := w) (y := (y : Int)) w0 (by omega) (by omega)
  have hg : (gpS co (Int.toNat w) 8).testBit y = true ↔ Conn co w (y : Int) := by
    have e : ((y : Int)).toNat = y := by omega
    unfold gpB at hg
    rwa [e] at hg
  have key : (clF co (meF co (co 0 0).toNat) 8 w).testBit y = true ↔ (gpS co (Int.toNat w) 8).testBit y = true := by
    rw [hg]
    constructor
    · exact cl_sound hS 8 w w0 w1 y
    · intro hc
      rcases grow 8 with ⟨q, q1, q2⟩ | h
      · have := cl_mono (co := co) (M := meF co (co 0 0).toNat) (w := w) (y := y) (r := q) (8 - q) (closed q q2 y hc)
        rwa [show q + (8 - q) = 8 by omega] at this
      · have := pcS_b (clF co (meF co (co 0 0).toNat) 8 w)
        omega
  cases h1 : (clF co (meF co (co 0 0).toNat) 8 w).testBit y <;> cases h2 : (gpS co (Int.toNat w) 8).testBit y
  · rfl
  · rw [h1, h2] at key; exact absurd (key.mpr rfl) (by decide)
  · rw [h1, h2] at key; exact absurd (key.mp rfl) (by decide)
  · rfl
