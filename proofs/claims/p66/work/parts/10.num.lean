/-! numbers: an int of the machine as an integer -/
def zI (z : Int) : Int32 := Int32.ofInt z
abbrev Rg (z : Int) : Prop := -2147483648 ≤ z ∧ z < 2147483648
theorem zI_add (a b : Int) : zI a + zI b = zI (a + b) := (Int32.ofInt_add a b).symm
theorem zI_sub (a b : Int) : zI a - zI b = zI (a - b) := (Int32.ofInt_sub a b).symm
theorem zI_mul (a b : Int) : zI a * zI b = zI (a * b) := (Int32.ofInt_mul a b).symm
theorem zI_neg (a : Int) : - zI a = zI (- a) := (Int32.ofInt_neg a).symm
theorem zI_toInt {z : Int} (h : Rg z) : (zI z).toInt = z := Int32.toInt_ofInt_of_le (by omega) (by omega)
theorem zI_asI (x : Int32) : zI x.toInt = x := Int32.ofInt_toInt x
theorem zI_rg (x : Int32) : Rg x.toInt := by
  have h1 := Int32.le_toInt x
  have h2 := Int32.toInt_lt x
  omega
theorem zI_lt {a b : Int} (ha : Rg a) (hb : Rg b) : zI a < zI b ↔ a < b := by rw [Int32.lt_iff_toInt_lt, zI_toInt ha, zI_toInt hb]
theorem zI_le {a b : Int} (ha : Rg a) (hb : Rg b) : zI a ≤ zI b ↔ a ≤ b := by rw [Int32.le_iff_toInt_le, zI_toInt ha, zI_toInt hb]
theorem zI_eq {a b : Int} (ha : Rg a) (hb : Rg b) : zI a = zI b ↔ a = b := by rw [← Int32.toInt_inj, zI_toInt ha, zI_toInt hb]
theorem zI_0 : (0 : Int32) = zI 0 := rfl
theorem zI_nat (n : Nat) : Int32.ofNat n = zI (n : Int) := (Int32.ofInt_eq_ofNat).symm
theorem zI_clamp {z : Int} (h0 : 0 ≤ z) (h : z < 2147483648) : (zI z).toNatClampNeg = z.toNat := by
  show (zI z).toInt.toNat = z.toNat
  rw [zI_toInt (by omega)]
theorem zI_in {z : Int} {n : Nat} (h0 : 0 ≤ z) (h : z < n) (hn : n < 2147483648) : vp_in (zI z) n := by
  rw [vp_in_iff, zI_toInt (by omega)]
  exact ⟨h0, h⟩
/-- a row of ints -/
def zA (g : Int → Int) : Nat → Int32 := fun j => zI (g (j : Int))
def updZ (g : Int → Int) (i v : Int) : Int → Int := fun j => if j = i then v else g j
theorem updZ_at (g : Int → Int) (i v : Int) : updZ g i v i = v := by simp [updZ]
theorem updZ_ne (g : Int → Int) {i j : Int} (v : Int) (h : j ≠ i) : updZ g i v j = g j := by simp [updZ, h]
theorem zA_at {g : Int → Int} {z : Int} (h0 : 0 ≤ z) (h : z < 2147483648) : zA g (zI z).toNatClampNeg = zI (g z) := by
  rw [zI_clamp h0 h]
  show zI (g ((z.toNat : Nat) : Int)) = zI (g z)
  rw [Int.toNat_of_nonneg h0]
theorem zA_upd {g : Int → Int} {i v : Int} (h0 : 0 ≤ i) (h : i < 2147483648) : upd (zA g) (zI i).toNatClampNeg (zI v) = zA (updZ g i v) := by
  rw [zI_clamp h0 h]
  funext j
  by_cases hj : j = i.toNat
  · subst hj
    simp [upd, zA, updZ, Int.toNat_of_nonneg h0]
  · have : (j : Int) ≠ i := fun e => hj (by omega)
    simp [upd, zA, updZ, hj, this]
/-- rows of a thing, by their numbers -/
def updC (c : Nat → Int → Int) (r : Nat) (f : Int → Int) : Nat → Int → Int := fun q => bif Nat.beq q r then f else c q
theorem updC_at (c : Nat → Int → Int) (r : Nat) (f : Int → Int) : updC c r f r = f := by simp [updC]
theorem updC_ne (c : Nat → Int → Int) {r q : Nat} (f : Int → Int) (h : q ≠ r) : updC c r f q = c q := by
  have : Nat.beq q r = false := by
    cases hb : Nat.beq q r
    · rfl
    · exact absurd (Nat.eq_of_beq_eq_true hb) h
  simp [updC, this]
/-- a truth value -/
def bz (φ : Prop) [Decidable φ] : Int := if φ then 1 else 0
theorem bz_t {φ : Prop} [Decidable φ] (h : φ) : bz φ = 1 := if_pos h
theorem bz_f {φ : Prop} [Decidable φ] (h : ¬ φ) : bz φ = 0 := if_neg h
theorem bz_rg {φ : Prop} [Decidable φ] : 0 ≤ bz φ ∧ bz φ ≤ 1 := by unfold bz; split <;> omega
theorem bz_iff {φ ψ : Prop} [Decidable φ] [Decidable ψ] (h : φ ↔ ψ) : bz φ = bz ψ := by
  by_cases q : φ
  · rw [bz_t q, bz_t (h.mp q)]
  · rw [bz_f q, bz_f (fun z => q (h.mpr z))]
/-- a loop upwards: at each place it ends, or goes on at the next -/
theorem up_loop (N : Nat) {P : Nat → Prop} (hs : ∀ i, i ≤ N → (i < N → P (i + 1)) → P i) : P 0 := by
  have key : ∀ d i, i + d = N → P i := by
    intro d
    induction d with
    | zero => intro i hi; exact hs i (by omega) (fun h => absurd h (by omega))
    | succ d ih => intro i hi; exact hs i (by omega) (fun _ => ih (i + 1) (by omega))
  exact key N 0 (by omega)

