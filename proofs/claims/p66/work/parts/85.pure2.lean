/-! what the law counts, and what the class answers -/
theorem case_of {co : Nat → Int → Int} (hU : UqI co) {c : Int} (c0 : 0 ≤ c) (c1 : c < co 0 0) : firstZ (fun j => co 1 j = co 1 c ∧ co 2 j = co 2 c) (co 0 0).toNat = c := firstZ_hit c0 (by omega) ⟨rfl, rfl⟩ (fun j a b h => hU j c a b c1 h)
theorem hr_new {co : Nat → Int → Int} (hO : OkC co) (ts : TsI co) {c : Int} (c0 : 0 ≤ c) (c1 : c < co 0 0) {k : Nat} (hk : (k : Int) < co 6 c) : ¬ (hrS co c k).testBit (Int.toNat (co 7 (c * 6 + (k : Int)))) = true := by
  intro h
  obtain ⟨j, j0, j1, e⟩ := (hrS_bit k).mp h
  have d := ts.2.1 c j (k : Int) c0 c1 j0 j1 hk
  have b1 := hO.b7 (c * 6 + j)
  have b2 := hO.b7 (c * 6 + (k : Int))
  omega
theorem hr_shift {a b : Nat} : (((a >>> b) &&& 1 : Nat) : Int) = 1 ↔ a.testBit b = true := by
  rw [bit_1]
  by_cases h : a.testBit b = true
  · rw [if_pos h]; simp [h]
  · rw [if_neg h]; simp [h]
/-- in how many of c cases a witness spoke, and how often among k testimonies of the next -/
def sqF (co : Nat → Int → Int) (c k : Nat) : Int → Int := fun w => if 0 ≤ w ∧ w < 8 then sumZ (fun j => bz (0 < co 9 (j * 8 + w))) c + sumZ (fun p => bz (co 7 ((c : Int) * 6 + p) = w)) k else 0
theorem sqF_0 (co : Nat → Int → Int) : (fun _ => 0 : Int → Int) = sqF co 0 0 := by
  funext w
  unfold sqF
  split <;> rfl
theorem sqF_s {co : Nat → Int → Int} (hO : OkC co) (c k : Nat) : updZ (sqF co c k) (co 7 ((c : Int) * 6 + (k : Int))) (sqF co c k (co 7 ((c : Int) * 6 + (k : Int))) + 1) = sqF co c (k + 1) := by
  funext w
  have b := hO.b7 ((c : Int) * 6 + (k : Int))
  by_cases h : w = co 7 ((c : Int) * 6 + (k : Int))
  · rw [h, updZ_at]
    unfold sqF
    rw [if_pos (by omega), if_pos (by omega), sumZ_s, bz_t rfl]
    omega
  · rw [updZ_ne _ _ h]
    unfold sqF
    split
    · rw [sumZ_s, bz_f (fun e => h e.symm)]
      omega
    · rfl
theorem tst_one {co : Nat → Int → Int} (hO : OkC co) (ts : TsI co) {c w : Int} (c0 : 0 ≤ c) (c1 : c < co 0 0) (w0 : 0 ≤ w) (w1 : w < 8) : sumZ (fun p => bz (co 7 (c * 6 + p) = w)) (co 6 c).toNat = bz (0 < co 9 (c * 8 + w)) := by
  have h6 := hO.b6 c
  have hb := hO.b0
  by_cases h : hrd co c w
  · obtain ⟨-, j, j0, j1, e⟩ := ts.2.2.1 c w c0 (by omega) w0 w1 h
    rw [bz_t h, sumZ_1 (a := j) j0 (by omega) (fun i i0 i1 ne => bz_f (fun q => ?_)), bz_t e]
    rcases Int.lt_or_lt_of_ne ne with z | z
    · exact ts.2.1 c i j c0 c1 i0 z j1 (by rw [q, e])
    · exact ts.2.1 c j i c0 c1 j0 z (by omega) (by rw [q, e])
  · rw [bz_f h]
    have z : sumZ (fun p => bz (co 7 (c * 6 + p) = w)) (co 6 c).toNat = sumZ (fun _ => 0) (co 6 c).toNat := sumZ_c (fun i i0 i1 => bz_f (fun q => h (by
      have := (ts.a c0 c1 i0 (show i < co 6 c by omega)).2.1
      rw [q] at this
      exact this)))
    rw [z, sumZ_z]
theorem sqF_e {co : Nat → Int → Int} (hO : OkC co) (ts : TsI co) (c : Nat) (c1 : (c : Int) < co 0 0) : sqF co c (co 6 (c : Int)).toNat = sqF co (c + 1) 0 := by
  funext w
  unfold sqF
  by_cases h : 0 ≤ w ∧ w < 8
  · rw [if_pos h, if_pos h, tst_one hO ts (by omega) c1 h.1 h.2, sumZ_s]
    show _ = _ + _ + 0
    omega
  · rw [if_neg h, if_neg h]
theorem sqF_all {co : Nat → Int → Int} {w : Int} (w0 : 0 ≤ w) (w1 : w < 8) : sqF co (co 0 0).toNat 0 w = chC co w := by
  unfold sqF chC
  rw [if_pos ⟨w0, w1⟩]
  show _ + 0 = _
  omega
/-- the sentences of c cases -/
def snF (co : Nat → Int → Int) (c : Nat) : Int → Int := fun d => sumZ (fun j => if co 1 j = d ∧ ¬ co 4 j = 0 then co 2 j + 1 else 0) c
theorem snF_s {co : Nat → Int → Int} (c : Nat) {X : Int} (hX : X = if ¬ co 4 (c : Int) = 0 then co 2 (c : Int) + 1 else 0) : updZ (snF co c) (co 1 (c : Int)) (snF co c (co 1 (c : Int)) + X) = snF co (c + 1) := by
  funext d
  by_cases h : d = co 1 (c : Int)
  · rw [h, updZ_at]
    unfold snF
    rw [sumZ_s, hX]
    by_cases q : co 4 (c : Int) = 0
    · rw [if_neg (by simp [q]), if_neg (by simp [q])]
    · rw [if_pos q, if_pos ⟨rfl, q⟩]
  · rw [updZ_ne _ _ h]
    unfold snF
    rw [sumZ_s, if_neg (fun q => h q.1.symm)]
    omega
theorem snF_b {co : Nat → Int → Int} (hO : OkC co) (c : Nat) (hc : c ≤ 16) (d : Int) : 0 ≤ snF co c d ∧ snF co c d ≤ 80 := by
  have h := sumZ_b (f := fun j => if co 1 j = d ∧ ¬ co 4 j = 0 then co 2 j + 1 else 0) (lo := 0) (hi := 5) (n := c) (fun j _ _ => by
    have := hO.b2 j
    split <;> omega)
  have e : snF co c d = sumZ (fun j => if co 1 j = d ∧ ¬ co 4 j = 0 then co 2 j + 1 else 0) c := rfl
  omega
theorem snF_all {co : Nat → Int → Int} (sn : SnI co) {d : Int} (d0 : 0 ≤ d) (d1 : d < 6) : snF co (co 0 0).toNat d = co 12 d := (sn d d0 d1).symm
theorem amx_c {f g : Int → Int} : ∀ n : Nat, (∀ i : Int, 0 ≤ i → i < n → f i = g i) → amx f n = amx g n
  | 0, _ => rfl
  | n + 1, h => by
    have I := amx_c n (fun i a b => h i a (by omega))
    have b := amx_b g n
    rw [amx_s, amx_s, I, h (n : Int) (by omega) (by omega), h (amx g n) (by omega) (by omega)]
/-- the heaviest witness of the first k testimonies -/
def hvF (co : Nat → Int → Int) (c : Int) (k : Nat) : Int := if k = 0 then -30000 else co 7 (c * 6 + amx (wtC co c) k)
theorem hvF_e {co : Nat → Int → Int} (hO : OkC co) (c : Int) : hvF co c (co 6 c).toNat = hvC co c := by
  have := hO.b6 c
  unfold hvF hvC
  by_cases h : 0 < co 6 c
  · rw [if_neg (by omega), if_pos h]
  · rw [if_pos (by omega), if_neg h]
theorem hvF_t {co : Nat → Int → Int} {c : Int} {k : Nat} (h : k = 0 ∨ wtC co c (amx (wtC co c) k) < wtC co c (k : Int)) : hvF co c (k + 1) = co 7 (c * 6 + (k : Int)) := by
  unfold hvF
  rw [if_neg (by omega), amx_s]
  rcases h with h | h
  · subst h
    have e : amx (wtC co c) 0 = ((0 : Nat) : Int) := rfl
    rw [e]
    split <;> rfl
  · rw [if_pos h]
theorem hvF_f {co : Nat → Int → Int} {c : Int} {k : Nat} (hk : k ≠ 0) (h : wtC co c (k : Int) ≤ wtC co c (amx (wtC co c) k)) : hvF co c (k + 1) = hvF co c k := by
  unfold hvF
  rw [if_neg (by omega), if_neg hk, amx_s, if_neg (by omega)]
/-- as many firm answers as are needed, looked for from above -/
def noZ (z : Int) : Int := if z = -1 then -30000 else z
abbrev faP (co : Nat → Int → Int) (c w : Int) (j : Int) : Prop := 0 < mgC co c + j * (co 8 (c * 8 + w) * co 9 (c * 8 + w))
def anF (co : Nat → Int → Int) (c w : Int) (i : Nat) : Int := noZ (firstF (fun j => faP co c w j) i (10 - co 11 w - (i : Int)))
theorem anF_s {co : Nat → Int → Int} {c w : Int} {i : Nat} {X : Int} (hX : X = if faP co c w (9 - co 11 w - (i : Int)) then 9 - co 11 w - (i : Int) else anF co c w i) (hi : (i : Int) ≤ 9 - co 11 w) : X = anF co c w (i + 1) := by
  rw [hX]
  unfold anF
  have e : (10 - co 11 w - ((i + 1 : Nat) : Int)) = 9 - co 11 w - (i : Int) := by omega
  rw [e]
  show _ = noZ (if faP co c w (9 - co 11 w - (i : Int)) then 9 - co 11 w - (i : Int) else firstF (fun j => faP co c w j) i (9 - co 11 w - (i : Int) + 1))
  by_cases q : faP co c w (9 - co 11 w - (i : Int))
  · rw [if_pos q, if_pos q]
    unfold noZ
    rw [if_neg (by omega)]
  · rw [if_neg q, if_neg q, show 9 - co 11 w - (i : Int) + 1 = 10 - co 11 w - (i : Int) by omega]
theorem anF_e {co : Nat → Int → Int} (hO : OkC co) (c w : Int) : anF co c w (10 - co 11 w).toNat = frC co c w := by
  have b := hO.b11 w
  have hf := faC_b hO c w
  unfold anF frC noZ
  have e : firstF (fun j => faP co c w j) (10 - co 11 w).toNat (10 - co 11 w - (((10 - co 11 w).toNat : Nat) : Int)) = faC co c w := by
    rw [show (10 - co 11 w - (((10 - co 11 w).toNat : Nat) : Int)) = 0 by omega]
    show _ = firstF (fun j => 0 < mgC co c + j * (co 8 (c * 8 + w) * co 9 (c * 8 + w))) (9 - co 11 w + 1).toNat 0
    rw [show (9 - co 11 w + 1).toNat = (10 - co 11 w).toNat by omega]
  rw [e]
  by_cases q : 0 ≤ faC co c w
  · rw [if_neg (by omega), if_pos q]
  · rw [if_pos (by omega), if_neg q]
theorem fa_mul {co : Nat → Int → Int} (hO : OkC co) {c w n : Int} (n0 : 0 ≤ n) (n1 : n ≤ 9) (hs : co 8 (c * 8 + w) = 1 ∨ co 8 (c * 8 + w) = -1) : n * co 9 (c * 8 + w) * co 8 (c * 8 + w) = n * (co 8 (c * 8 + w) * co 9 (c * 8 + w)) ∧ -45 ≤ n * (co 8 (c * 8 + w) * co 9 (c * 8 + w)) ∧ n * (co 8 (c * 8 + w) * co 9 (c * 8 + w)) ≤ 45 := by
  have b := hO.b9 (c * 8 + w)
  have m := mul_b (a := n) (b := co 9 (c * 8 + w)) (A := 9) (B := 5) n0 n1 (by omega) (by omega) (by decide) (by decide)
  have m0 := Int.mul_nonneg n0 b.1
  rcases hs with h | h
  · rw [h, Int.mul_one, Int.one_mul]
    exact ⟨rfl, by omega, by omega⟩
  · rw [h, Int.neg_one_mul, Int.mul_neg, Int.mul_neg, Int.mul_one]
    exact ⟨rfl, by omega, by omega⟩
/-- the first of the docket among c cases -/
def fsF (co : Nat → Int → Int) (c : Nat) : Int := if ndF co c = -1 then -30000 else ndF co c
theorem fsF_s {co : Nat → Int → Int} {c : Nat} {X : Int} (hX : X = if co 3 (c : Int) = 0 ∧ 0 < co 6 (c : Int) ∧ (fsF co c = -30000 ∨ rkD co (c : Int) < rkD co (fsF co c)) then (c : Int) else fsF co c) : X = fsF co (c + 1) := by
  rw [hX]
  have b := ndF_b co c
  have e : fsF co c = -30000 ↔ ndF co c < 0 := by
    unfold fsF
    split
    · exact ⟨fun _ => by omega, fun _ => rfl⟩
    · exact ⟨fun z => by omega, fun z => by omega⟩
  have e2 : ¬ ndF co c < 0 → fsF co c = ndF co c := fun z => if_neg (by omega)
  show _ = (if ndF co (c + 1) = -1 then -30000 else ndF co (c + 1))
  by_cases q : co 3 (c : Int) = 0 ∧ 0 < co 6 (c : Int) ∧ (ndF co c < 0 ∨ rkD co (c : Int) < rkD co (ndF co c))
  · have h1 : ndF co (c + 1) = (c : Int) := by rw [ndF_s, if_pos q]
    have hl : co 3 (c : Int) = 0 ∧ 0 < co 6 (c : Int) ∧ (fsF co c = -30000 ∨ rkD co (c : Int) < rkD co (fsF co c)) := by
      refine ⟨q.1, q.2.1, ?_⟩
      rcases q.2.2 with z | z
      · exact Or.inl (e.mpr z)
      · by_cases z2 : ndF co c < 0
        · exact Or.inl (e.mpr z2)
        · exact Or.inr (by rw [e2 z2]; exact z)
    rw [h1, if_pos hl, if_neg (by omega)]
  · have h1 : ndF co (c + 1) = ndF co c := by rw [ndF_s, if_neg q]
    rw [h1, if_neg]
    · rfl
    · intro z
      refine q ⟨z.1, z.2.1, ?_⟩
      rcases z.2.2 with y | y
      · exact Or.inl (e.mp y)
      · by_cases z2 : ndF co c < 0
        · exact Or.inl z2
        · exact Or.inr (by rw [← e2 z2]; exact y)
/-- agreement by the law -/
def agL (co : Nat → Int → Int) (w y : Int) (j : Int) : Int := if 0 < co 9 (j * 8 + w) ∧ 0 < co 9 (j * 8 + y) then (if bz (0 < co 8 (j * 8 + w)) = bz (0 < co 8 (j * 8 + y)) then 1 else -1) else 0
theorem agL_e {co : Nat → Int → Int} (hO : OkC co) (ts : TsI co) {w y : Int} (w0 : 0 ≤ w) (w1 : w < 8) (y0 : 0 ≤ y) (y1 : y < 8) : sumZ (fun j => co 8 (j * 8 + w) * co 8 (j * 8 + y)) (co 0 0).toNat = sumZ (agL co w y) (co 0 0).toNat := by
  have hb := hO.b0
  refine sumZ_c (fun j j0 j1 => ?_)
  unfold agL
  by_cases h1 : hrd co j w
  · by_cases h2 : hrd co j y
    · rw [if_pos ⟨h1, h2⟩]
      rcases ts.sw j0 (by omega) w0 w1 h1 with a | a <;> rcases ts.sw j0 (by omega) y0 y1 h2 with b | b <;> rw [a, b] <;> decide
    · rw [if_neg (fun z => h2 z.2), (ts.2.2.2 j y j0 (by omega) y0 y1 h2).1, Int.mul_zero]
  · rw [if_neg (fun z => h1 z.1), (ts.2.2.2 j w j0 (by omega) w0 w1 h1).1, Int.zero_mul]
theorem agL_b (co : Nat → Int → Int) (w y j : Int) : -1 ≤ agL co w y j ∧ agL co w y j ≤ 1 := by
  unfold agL
  split
  · split <;> omega
  · omega
/-- counts of phases -/
theorem ph_cnt {co : Nat → Int → Int} (hO : OkC co) : ∀ n : Nat, sumZ (fun j => bz (co 3 j = 0)) n + sumZ (fun j => bz (¬ co 3 j = 0)) n = n ∧ sumZ (fun j => bz (co 3 j = 1)) n + sumZ (fun j => bz (co 3 j = 2)) n = sumZ (fun j => bz (¬ co 3 j = 0)) n
  | 0 => ⟨rfl, rfl⟩
  | n + 1 => by
    have I := ph_cnt hO n
    have b := hO.b3 (n : Int)
    simp only [sumZ_s]
    rcases (show co 3 (n : Int) = 0 ∨ co 3 (n : Int) = 1 ∨ co 3 (n : Int) = 2 by omega) with h | h | h
    · rw [h, bz_t (φ := (0 : Int) = 0) rfl, bz_f (φ := ¬ (0 : Int) = 0) (by decide), bz_f (φ := (0 : Int) = 1) (by decide), bz_f (φ := (0 : Int) = 2) (by decide)]
      omega
    · rw [h, bz_f (φ := (1 : Int) = 0) (by decide), bz_t (φ := ¬ (1 : Int) = 0) (by decide), bz_t (φ := (1 : Int) = 1) rfl, bz_f (φ := (1 : Int) = 2) (by decide)]
      omega
    · rw [h, bz_f (φ := (2 : Int) = 0) (by decide), bz_t (φ := ¬ (2 : Int) = 0) (by decide), bz_f (φ := (2 : Int) = 1) (by decide), bz_t (φ := (2 : Int) = 2) rfl]
      omega
/-! ranks of witnesses -/
theorem mc_ir {co : Nat → Int → Int} {x : Int} : ¬ mcC co x x := by
  intro h
  unfold mcC at h
  omega
theorem mc_tr {co : Nat → Int → Int} {x y z : Int} (h : mcC co x y) (g : mcC co y z) : mcC co x z := by
  unfold mcC at h g ⊢
  omega
theorem mc_to {co : Nat → Int → Int} {x y : Int} (h : ¬ x = y) (g : ¬ mcC co x y) : mcC co y x := by
  unfold mcC at g ⊢
  omega
theorem rkC_lt {co : Nat → Int → Int} {x y : Int} (x0 : 0 ≤ x) (x1 : x < co 0 1) (h : mcC co x y) : rkC co x < rkC co y := by
  unfold rkC
  have hle : ∀ i : Int, 0 ≤ i → i < ((co 0 1).toNat : Int) → bz (mcC co i x) + (if i = x then 1 else 0) ≤ bz (mcC co i y) := by
    intro i i0 i1
    by_cases e : i = x
    · rw [e, if_pos rfl, bz_f mc_ir, bz_t h]
      omega
    · rw [if_neg e]
      by_cases q : mcC co i x
      · rw [bz_t q, bz_t (mc_tr q h)]
        omega
      · rw [bz_f q]
        have := bz_rg (φ := mcC co i y)
        omega
  have s1 := sumZ_le hle
  have s2 := sumZ_add (f := fun i => bz (mcC co i x)) (g := fun i : Int => if i = x then (1 : Int) else 0) (h := fun i => bz (mcC co i x) + (if i = x then 1 else 0)) (n := (co 0 1).toNat) (fun _ _ _ => rfl)
  have s3 := sumZ_1 (f := fun i : Int => if i = x then (1 : Int) else 0) (n := (co 0 1).toNat) x0 (by omega) (fun i _ _ ne => if_neg ne)
  have s4 : (fun i : Int => if i = x then (1 : Int) else 0) x = 1 := if_pos rfl
  omega
theorem rkC_n {co : Nat → Int → Int} {x : Int} (x0 : 0 ≤ x) (x1 : x < co 0 1) : rkC co x < co 0 1 := by
  unfold rkC
  have s1 := sumZ_le (f := fun i => bz (mcC co i x) + (if i = x then 1 else 0)) (g := fun _ => 1) (n := (co 0 1).toNat) (fun i i0 i1 => by
    by_cases e : i = x
    · rw [e, if_pos rfl, bz_f mc_ir]
      omega
    · rw [if_neg e]
      have := bz_rg (φ := mcC co i x)
      omega)
  have s2 := sumZ_add (f := fun i => bz (mcC co i x)) (g := fun i : Int => if i = x then (1 : Int) else 0) (h := fun i => bz (mcC co i x) + (if i = x then 1 else 0)) (n := (co 0 1).toNat) (fun _ _ _ => rfl)
  have s3 := sumZ_1 (f := fun i : Int => if i = x then (1 : Int) else 0) (n := (co 0 1).toNat) x0 (by omega) (fun i _ _ ne => if_neg ne)
  have s4 : (fun i : Int => if i = x then (1 : Int) else 0) x = 1 := if_pos rfl
  have s5 := sumZ_b (f := fun _ => 1) (lo := 1) (hi := 1) (n := (co 0 1).toNat) (fun _ _ _ => by omega)
  omega
/-- every rank is a witness's -/
theorem rk_ex {co : Nat → Int → Int} (hO : OkC co) {k : Int} (k0 : 0 ≤ k) (k1 : k < co 0 1) : 0 ≤ firstZ (fun j => rkC co j = k) (co 0 1).toNat := by
  rcases firstZ_cases (fun j => rkC co j = k) (co 0 1).toNat with ⟨-, h2⟩ | ⟨j, j0, -, -, -, h5⟩
  · exfalso
    -- counted by ranks: as many as witnesses, but none of rank k
    have hb := hO.bw
    have c1 : ∀ w : Int, 0 ≤ w → w < ((co 0 1).toNat : Int) → sumZ (fun r => bz (rkC co w = r)) (co 0 1).toNat = 1 := by
      intro w w0 w1
      have := rkC_n (co := co) w0 (by omega)
      have b := rkC_b co w
      rw [sumZ_1 (a := rkC co w) b.1 (by omega) (fun i _ _ ne => bz_f (fun q => ne q.symm)), bz_t rfl]
    have c2 : ∀ r : Int, 0 ≤ r → r < ((co 0 1).toNat : Int) → sumZ (fun w => bz (rkC co w = r)) (co 0 1).toNat ≤ 1 := by
      intro r r0 r1
      rcases firstZ_cases (fun j => rkC co j = r) (co 0 1).toNat with ⟨-, g⟩ | ⟨i, i0, i1, i2, i3, -⟩
      · have z : sumZ (fun w => bz (rkC co w = r)) (co 0 1).toNat = sumZ (fun _ => 0) (co 0 1).toNat := sumZ_c (fun w a b => bz_f (g w a b))
        rw [z, sumZ_z]
        omega
      · rw [sumZ_1 (a := i) i0 i1 (fun w a b ne => bz_f (fun q => ?_))]
        · exact bz_rg.2
        · by_cases m : mcC co w i
          · have := rkC_lt a (by omega) m
            omega
          · have := rkC_lt (co := co) i0 (by omega) (mc_to ne m)
            omega
    have e1 : sumZ (fun w => sumZ (fun r => bz (rkC co w = r)) (co 0 1).toNat) (co 0 1).toNat = sumZ (fun _ => 1) (co 0 1).toNat := sumZ_c c1
    have e2 := sumZ_swap (M := fun w r => bz (rkC co w = r)) (m := (co 0 1).toNat) (co 0 1).toNat
    have e3 := sumZ_eq (f := fun r => sumZ (fun w => bz (rkC co w = r)) (co 0 1).toNat) (g := fun _ => 1) (n := (co 0 1).toNat) c2 (by omega) k k0 (by omega)
    have z : sumZ (fun w => bz (rkC co w = k)) (co 0 1).toNat = sumZ (fun _ => 0) (co 0 1).toNat := sumZ_c (fun w a b => bz_f (h2 w a b))
    rw [sumZ_z] at z
    have e4 : sumZ (fun w => bz (rkC co w = k)) (co 0 1).toNat = 1 := e3
    omega
  · omega
theorem rk_no {co : Nat → Int → Int} (hO : OkC co) : ¬ 0 ≤ firstZ (fun j => rkC co j = co 0 1) (co 0 1).toNat := by
  have hb := hO.bw
  rw [firstZ_none (fun j a b q => by
    have := rkC_n (co := co) a (by omega)
    omega)]
  decide
theorem rk_at {co : Nat → Int → Int} (hO : OkC co) {k : Int} (k0 : 0 ≤ k) (k1 : k < co 0 1) : 0 ≤ firstZ (fun j => rkC co j = k) (co 0 1).toNat ∧ firstZ (fun j => rkC co j = k) (co 0 1).toNat < co 0 1 ∧ rkC co (firstZ (fun j => rkC co j = k) (co 0 1).toNat) = k := by
  have hb := hO.bw
  have h := rk_ex hO k0 k1
  rcases firstZ_cases (fun j => rkC co j = k) (co 0 1).toNat with ⟨h1, -⟩ | ⟨j, j0, j1, j2, -, h5⟩
  · omega
  · rw [h5]
    exact ⟨j0, by omega, j2⟩
/-- of two ranks the first stands ahead -/
theorem rk_ord {co : Nat → Int → Int} (hO : OkC co) {k : Int} (k0 : 1 ≤ k) (k1 : k < co 0 1) {a b : Int} (ha : firstZ (fun j => rkC co j = k - 1) (co 0 1).toNat = a) (hb : firstZ (fun j => rkC co j = k) (co 0 1).toNat = b) : (0 ≤ a ∧ a < co 0 1) ∧ (0 ≤ b ∧ b < co 0 1) ∧ mcC co a b := by
  have h1 := rk_at hO (k := k - 1) (by omega) (by omega)
  have h2 := rk_at hO (k := k) (by omega) k1
  rw [ha] at h1
  rw [hb] at h2
  refine ⟨⟨h1.1, h1.2.1⟩, ⟨h2.1, h2.2.1⟩, ?_⟩
  have ne : ¬ b = a := fun e => by rw [e] at h2; omega
  by_cases m : mcC co a b
  · exact m
  · have := rkC_lt (co := co) h2.1 h2.2.1 (mc_to (fun e => ne e.symm) m)
    omega
