/-! what the law's calls keep of a court -/
def UqI (co : Nat → Int → Int) : Prop := ∀ j k, 0 ≤ j → j < k → k < co 0 0 → ¬ (co 1 j = co 1 k ∧ co 2 j = co 2 k)
def DcI (co : Nat → Int → Int) : Prop := sumZ (fun j => bz (¬ co 3 j = 0)) (co 0 0).toNat ≤ co 0 2
def BaI (co : Nat → Int → Int) (n : Int) : Prop := InvD co ∧ UqI co ∧ DcI co ∧ 0 ≤ co 0 2 ∧ co 0 2 ≤ n
theorem UqI.of {co co' : Nat → Int → Int} (h : UqI co) (e0 : co' 0 0 = co 0 0) (e1 : co' 1 = co 1) (e2 : co' 2 = co 2) : UqI co' := by
  intro j k a b c
  rw [e1, e2]
  exact h j k a b (by omega)
theorem DcI.of {co co' : Nat → Int → Int} (h : DcI co) (e0 : co' 0 0 = co 0 0) (e3 : co' 3 = co 3) (e2 : co' 0 2 = co 0 2) : DcI co' := by
  unfold DcI at h ⊢
  rw [e0, e3, e2]
  exact h
theorem bz_01' {φ : Prop} [Decidable φ] : 0 ≤ bz φ ∧ bz φ ≤ 1 := bz_rg
/-- one place of the phases changes -/
theorem DcI.put {co co' : Nat → Int → Int} (h : DcI co) {a y : Int} (a0 : 0 ≤ a) (a1 : a < co 0 0) (e0 : co' 0 0 = co 0 0) (e3 : co' 3 = updZ (co 3) a y) (e2 : co 0 2 + (bz (¬ y = 0) - bz (¬ co 3 a = 0)) ≤ co' 0 2) : DcI co' := by
  unfold DcI at h ⊢
  rw [e0, e3]
  have s := sumZ_upd (f := fun j => bz (¬ co 3 j = 0)) (w := a) (v := bz (¬ y = 0)) (co 0 0).toNat a0 (by omega)
  have c : sumZ (fun j => bz (¬ updZ (co 3) a y j = 0)) (co 0 0).toNat = sumZ (fun j => updZ (fun j => bz (¬ co 3 j = 0)) a (bz (¬ y = 0)) j) (co 0 0).toNat := sumZ_c (fun j _ _ => by
    by_cases q : j = a
    · subst q
      rw [updZ_at, updZ_at]
    · rw [updZ_ne _ _ q, updZ_ne _ _ q])
  rw [c, s]
  omega
theorem BaI.wide {co : Nat → Int → Int} {n m : Int} (h : BaI co n) (hm : n ≤ m) : BaI co m := ⟨h.1, h.2.1, h.2.2.1, h.2.2.2.1, by have := h.2.2.2.2; omega⟩
theorem updC_r {c : Nat → Int → Int} {r q : Nat} {f : Int → Int} (h : (Nat.beq q r) = false) : updC c r f q = c q := by
  unfold updC
  rw [h]
  rfl
theorem updC_s {c : Nat → Int → Int} {r : Nat} {f : Int → Int} : updC c r f r = f := updC_at c r f
/-- a change that is done keeps it; it counts at most one decision -/
theorem ba_op {co : Nat → Int → Int} {n : Int} (h : BaI co n) {kd a b f z : Int} (hkd : 0 ≤ kd ∧ kd ≤ 6) (hf : flC co kd a b z = 0) :
    BaI (opC co kd a b f z) (n + 1) ∧ opC co kd a b f z 0 0 = co 0 0 + (if kd = 0 then 1 else 0) ∧ opC co kd a b f z 0 1 = co 0 1 + (if kd = 1 then 1 else 0) := by
  have hI := op_inv h.1 (kd := kd) (a := a) (b := b) (f := f) (z := z) hkd hf
  have hO := h.1.inv.ok
  obtain ⟨hD, hU, hC, hn0, hn1⟩ := h
  unfold flC at hf
  unfold opC at hI ⊢
  by_cases k0 : kd = 0
  · rw [if_pos k0] at hf hI ⊢
    unfold fCh at hf
    split at hf
    · split at hf
      · exact absurd hf (by decide)
      · rename_i q1 q2
        have hb0 := hO.b0
        have e0 : openC co a b 0 0 = co 0 0 + 1 := rfl
        have e2 : openC co a b 0 2 = co 0 2 := rfl
        have e01 : openC co a b 0 1 = co 0 1 := rfl
        have r1 : openC co a b 1 = updZ (co 1) (co 0 0) a := rfl
        have r2 : openC co a b 2 = updZ (co 2) (co 0 0) b := rfl
        have r3 : openC co a b 3 = updZ (co 3) (co 0 0) 0 := rfl
        refine ⟨⟨hI, ?_, ?_, by rw [e2]; exact hn0, by rw [e2]; omega⟩, by rw [e0, if_pos k0], by rw [e01, if_neg (by omega)]; omega⟩
        · intro j k j0 jk k1
          rw [e0] at k1
          rw [r1, r2]
          by_cases e : k = co 0 0
          · rw [e, updZ_at, updZ_at, updZ_ne _ _ (by omega), updZ_ne _ _ (by omega)]
            intro w
            have hz := firstZ_cases (fun j => co 1 j = a ∧ co 2 j = b) (co 0 0).toNat
            rcases hz with ⟨-, hz⟩ | ⟨i, i0, i1, -, -, hz⟩
            · exact hz j j0 (by omega) w
            · exact q2 (Or.inl (by rw [hz]; exact i0))
          · rw [updZ_ne _ _ e, updZ_ne _ _ e, updZ_ne _ _ (by omega), updZ_ne _ _ (by omega)]
            exact hU j k j0 jk (by omega)
        · unfold DcI at hC ⊢
          rw [e0, e2, r3, show (co 0 0 + 1).toNat = (co 0 0).toNat + 1 by omega, sumZ_s, show (((co 0 0).toNat : Nat) : Int) = co 0 0 by omega, updZ_at, bz_f (by simp)]
          have c : sumZ (fun j => bz (¬ updZ (co 3) (co 0 0) 0 j = 0)) (co 0 0).toNat = sumZ (fun j => bz (¬ co 3 j = 0)) (co 0 0).toNat := sumZ_c (fun j _ j1 => by rw [updZ_ne _ _ (by omega)])
          rw [c]
          omega
    · exact absurd hf (by decide)
  rw [if_neg k0] at hf hI ⊢
  by_cases k1 : kd = 1
  · rw [if_pos k1] at hf hI ⊢
    have e0 : registerC co a 0 0 = co 0 0 := rfl
    have e1 : registerC co a 0 1 = co 0 1 + 1 := rfl
    have e2 : registerC co a 0 2 = co 0 2 := rfl
    exact ⟨⟨hI, hU.of e0 rfl rfl, hC.of e0 rfl e2, by rw [e2]; exact hn0, by rw [e2]; omega⟩, by rw [e0, if_neg k0]; omega, by rw [e1, if_pos k1]⟩
  rw [if_neg k1] at hf hI ⊢
  by_cases k2 : kd = 2
  · rw [if_pos k2] at hf hI ⊢
    split at hI <;> rename_i q
    · rw [if_pos q]
      exact ⟨⟨hI, hU.of rfl rfl rfl, hC.of rfl rfl rfl, hn0, by show co 0 2 ≤ _; omega⟩, by rw [if_neg k0]; show co 0 0 = _; omega, by rw [if_neg k1]; show co 0 1 = _; omega⟩
    · rw [if_neg q]
      exact ⟨⟨hI, hU.of rfl rfl rfl, hC.of rfl rfl rfl, hn0, by show co 0 2 ≤ _; omega⟩, by rw [if_neg k0]; show co 0 0 = _; omega, by rw [if_neg k1]; show co 0 1 = _; omega⟩
  rw [if_neg k2] at hf hI ⊢
  by_cases k3 : kd = 3
  · rw [if_pos k3] at hf hI ⊢
    split at hI <;> rename_i q
    · rw [if_pos q]
      exact ⟨⟨hI, hU.of rfl rfl rfl, hC.of rfl rfl rfl, hn0, by show co 0 2 ≤ _; omega⟩, by rw [if_neg k0]; show co 0 0 = _; omega, by rw [if_neg k1]; show co 0 1 = _; omega⟩
    · rw [if_neg q]
      exact ⟨⟨hI, hU.of rfl rfl rfl, hC.of rfl rfl rfl, hn0, by show co 0 2 ≤ _; omega⟩, by rw [if_neg k0]; show co 0 0 = _; omega, by rw [if_neg k1]; show co 0 1 = _; omega⟩
  rw [if_neg k3] at hf hI ⊢
  by_cases k4 : kd = 4
  · rw [if_pos k4] at hf hI ⊢
    unfold fDe at hf
    split at hf
    · split at hf
      · rename_i q1 q2
        have b1 : bz (¬ co 3 a = 0) = 0 := bz_f (by simp [q2.1])
        have g : ∀ (c : Nat → Int → Int) (y : Int), c 0 0 = co 0 0 → c 0 1 = co 0 1 → c 0 2 = co 0 2 + 1 → c 1 = co 1 → c 2 = co 2 → c 3 = updZ (co 3) a y → InvD c → BaI c (n + 1) ∧ c 0 0 = co 0 0 + (if kd = 0 then 1 else 0) ∧ c 0 1 = co 0 1 + (if kd = 1 then 1 else 0) := by
          intro c y g0 g1 g2 g3 g4 g5 gI
          have b2 := bz_rg (φ := ¬ y = 0)
          exact ⟨⟨gI, hU.of g0 g3 g4, hC.put q1.1 q1.2 g0 g5 (by omega), by omega, by omega⟩, by rw [if_neg k0]; omega, by rw [if_neg k1]; omega⟩
        split at hI <;> rename_i p1
        · rw [if_pos p1]
          split at hI <;> rename_i p2
          · rw [if_pos p2]; exact g _ 2 rfl rfl rfl rfl rfl rfl hI
          · rw [if_neg p2]; exact g _ 1 rfl rfl rfl rfl rfl rfl hI
        · rw [if_neg p1]
          split at hI <;> rename_i p2
          · rw [if_pos p2]; exact g _ 2 rfl rfl rfl rfl rfl rfl hI
          · rw [if_neg p2]; exact g _ 1 rfl rfl rfl rfl rfl rfl hI
      · exact absurd hf (by decide)
    · exact absurd hf (by decide)
  rw [if_neg k4] at hf hI ⊢
  unfold fAf at hf
  split at hf
  · split at hf
    · rename_i q1 q2
      have b1 : bz (¬ co 3 a = 0) = 1 := bz_t (by omega)
      have g : ∀ (c : Nat → Int → Int) (y : Int), c 0 0 = co 0 0 → c 0 1 = co 0 1 → c 0 2 = co 0 2 → c 1 = co 1 → c 2 = co 2 → c 3 = updZ (co 3) a y → InvD c → BaI c (n + 1) ∧ c 0 0 = co 0 0 + (if kd = 0 then 1 else 0) ∧ c 0 1 = co 0 1 + (if kd = 1 then 1 else 0) := by
        intro c y g0 g1 g2 g3 g4 g5 gI
        have b2 := bz_rg (φ := ¬ y = 0)
        exact ⟨⟨gI, hU.of g0 g3 g4, hC.put q1.1 q1.2 g0 g5 (by omega), by omega, by omega⟩, by rw [if_neg k0]; omega, by rw [if_neg k1]; omega⟩
      by_cases k5 : kd = 5
      · rw [if_pos k5] at hI ⊢
        split at hI <;> rename_i p1
        · rw [if_pos p1]; exact g _ 0 rfl rfl rfl rfl rfl rfl hI
        · rw [if_neg p1]; exact g _ 0 rfl rfl rfl rfl rfl rfl hI
      · rw [if_neg k5] at hI ⊢
        exact g _ 2 rfl rfl rfl rfl rfl rfl hI
    · exact absurd hf (by decide)
  · exact absurd hf (by decide)
theorem ba_c0 : BaI c0 0 := ⟨c0_inv, fun j k _ _ h => absurd h (by show ¬ k < 0; omega), by unfold DcI; show sumZ _ 0 ≤ 0; exact Int.le_refl _, Int.le_refl _, Int.le_refl _⟩
/-- after a call of the law's: refused, or done -/
theorem ba_call {co co1 : Nat → Int → Int} {n : Int} (h : BaI co n) {kd a b f z : Int} (hkd : 0 ≤ kd ∧ kd ≤ 6) (hc : (¬ flC co kd a b z = 0 ∧ co1 = co) ∨ (flC co kd a b z = 0 ∧ co1 = opC co kd a b f z)) :
    BaI co1 (n + 1) ∧ (co1 0 0 = co 0 0 ∨ kd = 0 ∧ co1 0 0 = co 0 0 + 1) ∧ (co1 0 1 = co 0 1 ∨ kd = 1 ∧ co1 0 1 = co 0 1 + 1) := by
  rcases hc with ⟨-, rfl⟩ | ⟨hf, rfl⟩
  · exact ⟨h.wide (by omega), Or.inl rfl, Or.inl rfl⟩
  · obtain ⟨h1, h2, h3⟩ := ba_op (f := f) h hkd hf
    refine ⟨h1, ?_, ?_⟩
    · by_cases k : kd = 0
      · rw [if_pos k] at h2; exact Or.inr ⟨k, h2⟩
      · rw [if_neg k] at h2; exact Or.inl (by omega)
    · by_cases k : kd = 1
      · rw [if_pos k] at h3; exact Or.inr ⟨k, h3⟩
      · rw [if_neg k] at h3; exact Or.inl (by omega)
