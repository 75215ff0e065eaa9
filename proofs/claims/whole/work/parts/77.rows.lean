/-! the program's rows stay bounded -/
def PrB (pr : Nat → Int → Int) : Prop := (∀ (r : Nat) (j : Int), 0 ≤ pr r j ∧ pr r j ≤ 99) ∧ (∀ j : Int, 0 ≤ pr 1 j ∧ pr 1 j ≤ 6) ∧ ∀ j : Int, 0 ≤ pr 4 j ∧ pr 4 j ≤ 1
theorem PrB.row {pr : Nat → Int → Int} (h : PrB pr) {r : Nat} {g : Int → Int} (h1 : r ≠ 1) (h4 : r ≠ 4) (hg : ∀ j, 0 ≤ g j ∧ g j ≤ 99) : PrB (updC pr r g) := by
  refine ⟨fun q j => ?_, ?_, ?_⟩
  · by_cases e : q = r
    · rw [e, updC_at]
      exact hg j
    · rw [updC_ne _ _ e]
      exact h.1 q j
  · rw [updC_ne _ _ (Ne.symm h1)]
    exact h.2.1
  · rw [updC_ne _ _ (Ne.symm h4)]
    exact h.2.2
theorem PrB.row1 {pr : Nat → Int → Int} (h : PrB pr) {g : Int → Int} (hg : ∀ j, 0 ≤ g j ∧ g j ≤ 6) : PrB (updC pr 1 g) := by
  refine ⟨fun q j => ?_, ?_, ?_⟩
  · by_cases e : q = 1
    · rw [e, updC_at]
      have := hg j
      omega
    · rw [updC_ne _ _ e]
      exact h.1 q j
  · rw [updC_at]
    exact hg
  · rw [updC_ne _ _ (by decide)]
    exact h.2.2
theorem PrB.row4 {pr : Nat → Int → Int} (h : PrB pr) {g : Int → Int} (hg : ∀ j, 0 ≤ g j ∧ g j ≤ 1) : PrB (updC pr 4 g) := by
  refine ⟨fun q j => ?_, ?_, ?_⟩
  · by_cases e : q = 4
    · rw [e, updC_at]
      have := hg j
      omega
    · rw [updC_ne _ _ e]
      exact h.1 q j
  · rw [updC_ne _ _ (by decide)]
    exact h.2.1
  · rw [updC_at]
    exact hg
theorem dgG_b {f : Int → Int} {n pos siz : Int} {g : Int → Int} (h : ∀ j, 0 ≤ g j ∧ g j ≤ 99) : ∀ j, 0 ≤ dgG f n pos siz g j ∧ dgG f n pos siz g j ≤ 99 := by
  unfold dgG
  split
  · exact updZ_b h (by omega)
  · exact h
theorem chG_b {f : Int → Int} {n pos siz : Int} {g : Int → Int} (h : ∀ j, 0 ≤ g j ∧ g j ≤ 99) : ∀ j, 0 ≤ chG f n pos siz g j ∧ chG f n pos siz g j ≤ 99 := by
  unfold chG
  repeat' split
  all_goals first | exact h | exact updZ_b h (by omega)
theorem cwG_b {f : Int → Int} {n pos siz : Int} {g : Int → Int} (h : ∀ j, 0 ≤ g j ∧ g j ≤ 99) : ∀ j, 0 ≤ cwG f n pos siz g j ∧ cwG f n pos siz g j ≤ 99 := by
  unfold cwG
  repeat' split
  all_goals first | exact h | exact updZ_b h (by omega)
theorem teG_b {f : Int → Int} {n pos siz : Int} {g : Int → Int} (h : ∀ j, 0 ≤ g j ∧ g j ≤ 99) : ∀ j, 0 ≤ teG f n pos siz g j ∧ teG f n pos siz g j ≤ 99 := by
  unfold teG
  repeat' split
  all_goals first | exact h | exact updZ_b h (by omega)
theorem flG_b {f : Int → Int} {n pos siz c : Int} {g : Int → Int} (h : ∀ j, 0 ≤ g j ∧ g j ≤ 1) : ∀ j, 0 ≤ flG f n pos siz c g j ∧ flG f n pos siz c g j ≤ 1 := by
  unfold flG
  split
  · exact updZ_b h (by split <;> omega)
  · exact h
theorem nuG_b {f : Int → Int} {n pos siz : Int} {g : Int → Int} (h : ∀ j, 0 ≤ g j ∧ g j ≤ 99) : ∀ j, 0 ≤ nuG f n pos siz g j ∧ nuG f n pos siz g j ≤ 99 := by
  unfold nuG
  split
  · split
    · rw [updZ_at, updZ_at]
      exact updZ_b (updZ_b (updZ_b h (by omega)) (by omega)) (by omega)
    · exact updZ_b h (by omega)
  · exact h
theorem arC_b {f : Int → Int} {n pos siz k : Int} {pr : Nat → Int → Int} (h : PrB pr) : PrB (arC f n pos siz k pr) := by
  unfold arC
  split
  · exact (h.row (by decide) (by decide) (dgG_b (h.1 2))).row (by decide) (by decide) (chG_b (h.1 3))
  · split
    · exact h.row (by decide) (by decide) (dgG_b (h.1 2))
    · split
      · exact (((h.row (by decide) (by decide) (nuG_b (h.1 2))).row (by decide) (by decide) (cwG_b (h.1 3))).row4 (flG_b h.2.2)).row (by decide) (by decide) (teG_b (h.1 5))
      · split
        · exact ((h.row (by decide) (by decide) (nuG_b (h.1 2))).row (by decide) (by decide) (cwG_b (h.1 3))).row4 (flG_b h.2.2)
        · exact h.row (by decide) (by decide) (nuG_b (h.1 2))
theorem paC_b {f : Int → Int} {n po si : Int} {pr : Nat → Int → Int} (h : PrB pr) (k : ¬ kkZ f n po = -1) : PrB (paC f n po si pr) := by
  have a := arC_b (f := f) (n := n) (pos := po + fwZ f n po (bkZ f n po 7)) (siz := si) (k := kkZ f n po) h
  have kb := kkZ_b f n po
  exact a.row1 (updZ_b a.2.1 (by omega))
theorem paF_b {f : Int → Int} {n : Int} (n6 : n ≤ 60) : ∀ (m : Nat) (po si : Int) (pr : Nat → Int → Int), PrB pr → 0 ≤ po → po ≤ n → 0 ≤ si → 8 * si ≤ po → PrB (paF f n m po si pr).2.2.2 ∧ (0 ≤ (paF f n m po si pr).2.1 ∧ (paF f n m po si pr).2.1 ≤ 100) ∧ (0 ≤ (paF f n m po si pr).2.2.1 ∧ (paF f n m po si pr).2.2.1 ≤ 8) ∧ ((paF f n m po si pr).1 = 0 ∨ (paF f n m po si pr).1 = 1)
  | 0, po, si, pr, h, p0, p1, s0, s1 => by
    show PrB pr ∧ (0 ≤ po ∧ po ≤ 100) ∧ (0 ≤ si ∧ si ≤ 8) ∧ ((0 : Int) = 0 ∨ (0 : Int) = 1)
    exact ⟨h, by omega, by omega, Or.inl rfl⟩
  | m + 1, po, si, pr, h, p0, p1, s0, s1 => by
    have f7 := fwZ_7 f n po
    have ab := arP_b f n (po + fwZ f n po (bkZ f n po 7)) (kkZ f n po)
    have ee : paE f n po = arP f n (po + fwZ f n po (bkZ f n po 7)) (kkZ f n po) := rfl
    by_cases k : kkZ f n po = -1
    · rw [paF_1 k]
      show PrB pr ∧ (0 ≤ po + fwZ f n po (bkZ f n po 7) ∧ po + fwZ f n po (bkZ f n po 7) ≤ 100) ∧ (0 ≤ si ∧ si ≤ 8) ∧ ((0 : Int) = 0 ∨ (0 : Int) = 1)
      exact ⟨h, by omega, by omega, Or.inl rfl⟩
    · have kl := kkZ_len k
      by_cases a : arQ f n (po + fwZ f n po (bkZ f n po 7)) (kkZ f n po)
      · have al := arP_ok a
        have pb := paC_b (si := si) h k
        by_cases e : paE f n po = n
        · rw [paF_3 k a e]
          show PrB (paC f n po si pr) ∧ (0 ≤ paE f n po ∧ paE f n po ≤ 100) ∧ (0 ≤ si + 1 ∧ si + 1 ≤ 8) ∧ ((1 : Int) = 0 ∨ (1 : Int) = 1)
          exact ⟨pb, by omega, by omega, Or.inr rfl⟩
        · by_cases c : sgZ f n (paE f n po) = 59
          · rw [paF_4 k a e c]
            have l := sgZ_lt (f := f) (n := n) (i := paE f n po) (by omega)
            exact paF_b n6 m _ _ _ pb (by omega) (by omega) (by omega) (by omega)
          · rw [paF_5 k a e c]
            show PrB (paC f n po si pr) ∧ (0 ≤ paE f n po ∧ paE f n po ≤ 100) ∧ (0 ≤ si + 1 ∧ si + 1 ≤ 8) ∧ ((0 : Int) = 0 ∨ (0 : Int) = 1)
            exact ⟨pb, by omega, by omega, Or.inl rfl⟩
      · rw [paF_2 k a]
        show PrB (arC f n (po + fwZ f n po (bkZ f n po 7)) si (kkZ f n po) pr) ∧ (0 ≤ paE f n po ∧ paE f n po ≤ 100) ∧ (0 ≤ si ∧ si ≤ 8) ∧ ((0 : Int) = 0 ∨ (0 : Int) = 1)
        exact ⟨arC_b h, by omega, by omega, Or.inl rfl⟩
theorem pr0_b : PrB c0 := ⟨fun _ _ => by show (0 : Int) ≤ 0 ∧ (0 : Int) ≤ 99; omega, fun _ => by show (0 : Int) ≤ 0 ∧ (0 : Int) ≤ 6; omega, fun _ => by show (0 : Int) ≤ 0 ∧ (0 : Int) ≤ 1; omega⟩
/-- what a program leaves -/
theorem ex_inv {pr : Nat → Int → Int} (hp : PrB pr) : ∀ (m : Nat) (i : Int) (co : Nat → Int → Int), InvD co → InvD (exF pr m i co).2.2
  | 0, _, _, h => h
  | m + 1, i, co, h => by
    have b1 := hp.2.1 i
    have b4 := hp.2.2 i
    by_cases q : flC co (pr 1 i) (pr 2 i) (pr 3 i) (pr 5 i) = 0
    · rw [exF_1 q rfl]
      exact ex_inv hp m (i + 1) _ (op_inv h b1 q)
    · rw [exF_2 q]
      exact h
theorem PkO : ∀ c : Nat → Int → Int, InvD c → OkC c := fun _ h => h.inv.ok
theorem PkO2 : ∀ c : Nat → Int → Int, InvD c → OkC c ∧ TsI c ∧ StI c := fun _ h => ⟨h.inv.ok, h.inv.ts, h.inv.st⟩
theorem PkS : ∀ (c : Nat → Int → Int) (kd a y f z : Int), InvD c → (0 ≤ kd ∧ kd ≤ 6) → (0 ≤ f ∧ f ≤ 1) → flC c kd a y z = 0 → InvD (opC c kd a y f z) := fun _ _ _ _ _ _ h k _ q => op_inv h k q
/-- the start -/
theorem RelC_0 : RelC c0 (fun _ => 0) := ⟨⟨rfl, rfl, rfl, rfl⟩, fun _ _ _ => rfl, fun k _ h => by
  have h : k < (0 : Int) := h
  omega⟩
