theorem bit_1 (a b : Nat) : (a >>> b) &&& 1 = if a.testBit b then 1 else 0 := by
  rw [Nat.and_one_is_mod, Nat.shiftRight_eq_div_pow, Nat.testBit_eq_decide_div_mod_eq]
  by_cases h : a / 2 ^ b % 2 = 1
  · rw [h]
    simp
  · have h0 : a / 2 ^ b % 2 = 0 := by omega
    rw [h0]
    simp
/-- the set of a witness's group, by the reference -/
abbrev gpB (co : Nat → Int → Int) (w y : Int) : Prop := (gpS co (Int.toNat w) 8).testBit (Int.toNat y) = true
def GpI (co : Nat → Int → Int) : Prop := (∀ w y : Int, 0 ≤ w → w < co 0 1 → 0 ≤ y → y < co 0 1 → (gpB co w y ↔ rtF (co 13) 8 w = rtF (co 13) 8 y)) ∧ (∀ w y : Int, 0 ≤ w → w < co 0 1 → co 0 1 ≤ y → y < 8 → ¬ gpB co w y) ∧ sumZ (fun k => bz (gpS co (Int.toNat k) 8 &&& (2 ^ Int.toNat k - 1) = 0)) (co 0 1).toNat = sumZ (fun j => bz (co 13 j = j)) (co 0 1).toNat
theorem gp_c {co : Nat → Int → Int} (h : GpI co) {w y : Int} (w0 : 0 ≤ w) (w1 : w < co 0 1) (y0 : 0 ≤ y) (y1 : y < co 0 1) : (((gpS co (Int.toNat w) 8 >>> Int.toNat y) &&& 1 : Nat) : Int) = 1 ↔ rtF (co 13) 8 w = rtF (co 13) 8 y := by
  have hh := h.1 w y w0 w1 y0 y1
  rw [bit_1]
  by_cases q : gpB co w y
  · rw [if_pos q]
    exact ⟨fun _ => hh.mp q, fun _ => rfl⟩
  · rw [if_neg q]
    exact ⟨fun z => absurd z (by decide), fun z => absurd (hh.mpr z) q⟩
theorem sumZ_split (f : Int → Int) {a : Nat} : ∀ {b : Nat}, a ≤ b → (∀ i : Int, (a : Int) ≤ i → i < b → f i = 0) → sumZ f b = sumZ f a
  | 0, h, _ => by rw [show a = 0 by omega]
  | b + 1, h, hz => by
    by_cases e : a = b + 1
    · rw [e]
    · rw [sumZ_s, sumZ_split f (a := a) (b := b) (by omega) (fun i h0 h1 => hz i h0 (by omega)), hz b (by omega) (by omega)]
      omega
theorem gp_z {co : Nat → Int → Int} (hO : OkC co) (h : GpI co) {w : Int} (w0 : 0 ≤ w) (w1 : w < co 0 1) : sumZ (fun k => (((gpS co (Int.toNat w) 8 >>> Int.toNat k) &&& 1 : Nat) : Int)) 8 = sumZ (fun j => bz (rtF (co 13) 8 w = rtF (co 13) 8 j)) (co 0 1).toNat := by
  have hw := hO.bw
  rw [sumZ_split (a := (co 0 1).toNat) (b := 8) _ (by omega) (fun i h0 h1 => by
    have := h.2.1 w i w0 w1 (by omega) (by omega)
    rw [bit_1, if_neg this]
    rfl)]
  refine sumZ_c (fun i h0 h1 => ?_)
  have hh := h.1 w i w0 w1 h0 (by omega)
  rw [bit_1]
  by_cases q : gpB co w i
  · rw [if_pos q, bz_t (hh.mp q)]
    rfl
  · rw [if_neg q, bz_f (fun z => q (hh.mpr z))]
    rfl
