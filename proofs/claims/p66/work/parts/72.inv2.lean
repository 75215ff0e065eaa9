/-! a new witness, a new testimony -/
theorem Conn.rfl' {co : Nat → Int → Int} (a : Int) : Conn co a a := fun _ h _ => h
theorem Conn.trans {co : Nat → Int → Int} {a b c : Int} (h : Conn co a b) (h2 : Conn co b c) : Conn co a c := fun S Sa cl => h2 S (h S Sa cl) cl
theorem Conn.symm {co : Nat → Int → Int} {a b : Int} (h : Conn co a b) : Conn co b a := by
  intro S Sb cl
  apply Classical.byContradiction
  intro na
  exact h (fun x => ¬ S x) na (fun k x y k0 k1 x0 x1 y0 y1 hx hy nx sy => nx (cl k y x k0 k1 y0 y1 x0 x1 hy hx sy)) Sb
theorem Conn.one {co : Nat → Int → Int} {k x y : Int} (k0 : 0 ≤ k) (k1 : k < co 0 0) (x0 : 0 ≤ x) (x1 : x < 8) (y0 : 0 ≤ y) (y1 : y < 8) (hx : hrd co k x) (hy : hrd co k y) : Conn co x y := fun _ Sx cl => cl k x y k0 k1 x0 x1 y0 y1 hx hy Sx
theorem sumZ_1 {f : Int → Int} {n : Nat} {a : Int} (a0 : 0 ≤ a) (a1 : a < n) (h : ∀ i : Int, 0 ≤ i → i < n → i ≠ a → f i = 0) : sumZ f n = f a := by
  have e := sumZ_upd (f := f) (w := a) (v := 0) n a0 a1
  have e2 : sumZ (fun j => updZ f a 0 j) n = 0 * (n : Int) := by
    have g := sumZ_b (f := fun j => updZ f a 0 j) (lo := 0) (hi := 0) (n := n) (fun i i0 i1 => by
      show 0 ≤ updZ f a 0 i ∧ updZ f a 0 i ≤ 0
      by_cases q : i = a
      · rw [q, updZ_at]
        omega
      · rw [updZ_ne _ _ q, h i i0 i1 q]
        omega)
    omega
  omega
theorem rnC_b {co : Nat → Int → Int} (hO : OkC co) : 0 ≤ rnC co ∧ rnC co ≤ co 0 1 := by
  have hw := hO.bw
  have h := sumZ_b (f := fun j => bz (co 13 j = j)) (lo := 0) (hi := 1) (n := (co 0 1).toNat) (fun j _ _ => bz_rg)
  unfold rnC
  omega
theorem sumZ_le {f g : Int → Int} : ∀ {n : Nat}, (∀ i : Int, 0 ≤ i → i < n → f i ≤ g i) → sumZ f n ≤ sumZ g n
  | 0, _ => Int.le_refl _
  | n + 1, q => by
    rw [sumZ_s, sumZ_s]
    have := sumZ_le (n := n) (fun i a b => q i a (by omega))
    have := q n (by omega) (by omega)
    omega
theorem rnC_1 {co : Nat → Int → Int} (hO : OkC co) {r : Int} (r0 : 0 ≤ r) (r1 : r < co 0 1) (h : co 13 r = r) : 1 ≤ rnC co := by
  have hw := hO.bw
  have e := sumZ_1 (f := fun j => bz (j = r)) (n := (co 0 1).toNat) (a := r) r0 (by omega) (fun i _ _ q => bz_f q)
  have e2 : bz (r = r) = 1 := bz_t rfl
  have l := sumZ_le (f := fun j => bz (j = r)) (g := fun j => bz (co 13 j = j)) (n := (co 0 1).toNat) (fun i _ _ => by
    by_cases q : i = r
    · have : co 13 i = i := by rw [q]; exact h
      rw [bz_t q, bz_t this]
      exact Int.le_refl _
    · rw [bz_f q]
      exact bz_rg.1)
  unfold rnC
  omega
theorem GrI.lt {co : Nat → Int → Int} (hO : OkC co) (h : GrI co) : ∀ i : Int, 0 ≤ i → i < co 0 1 → 0 ≤ co 13 i ∧ co 13 i < co 0 1 := fun i i0 i1 => ⟨(hO.b13 i).1, (h.1 i i0 i1).1⟩
theorem GrI.root {co : Nat → Int → Int} (h : GrI co) {w : Int} (w0 : 0 ≤ w) (w1 : w < co 0 1) : co 13 (rtF (co 13) 8 w) = rtF (co 13) 8 w := (h.1 w w0 w1).2
theorem reg_inv {co : Nat → Int → Int} (h : InvD co) {a : Int} (hw : co 0 1 < 8) (ha : 0 ≤ a ∧ a ≤ 9) : InvD (registerC co a) := by
  have hO := h.inv.ok
  have hbw := hO.bw
  have hb0 := hO.b0
  have ts := h.inv.ts
  have gr := h.inv.gr
  have e0 : updZ (co 0) 1 (co 0 1 + 1) 0 = co 0 0 := updZ_ne _ _ (by decide)
  have e1 : updZ (co 0) 1 (co 0 1 + 1) 1 = co 0 1 + 1 := updZ_at _ _ _
  have ok0 : OkC (updC co 0 (updZ (co 0) 1 (co 0 1 + 1))) := hO.sc (by rw [e0]; exact hb0) (by rw [e1]; omega)
  have ok1 : OkC (updC (updC co 0 (updZ (co 0) 1 (co 0 1 + 1))) 11 (updZ (co 11) (co 0 1) a)) := ok0.upd (r := 11) (by decide) (by decide) ha
  have ok2 := ok1.upd (r := 13) (i := co 0 1) (v := co 0 1) (by decide) (by decide) ⟨hbw.1, by show _ ≤ (7 : Int); omega⟩
  have E0 : registerC co a 0 0 = co 0 0 := e0
  have E1 : registerC co a 0 1 = co 0 1 + 1 := e1
  have R13 : registerC co a 13 = updZ (co 13) (co 0 1) (co 0 1) := rfl
  have hl := gr.lt hO
  have cg : ∀ (n : Nat) (x : Int), 0 ≤ x → x < co 0 1 → rtF (updZ (co 13) (co 0 1) (co 0 1)) n x = rtF (co 13) n x := rtF_cg hl (fun i i0 i1 => updZ_ne _ _ (by omega))
  have nn : ∀ n, rtF (updZ (co 13) (co 0 1) (co 0 1)) n (co 0 1) = co 0 1 := fun n => rtF_root n _ (updZ_at _ _ _)
  have rn : rnC (registerC co a) = rnC co + 1 := by
    unfold rnC
    rw [E1, R13, show (co 0 1 + 1).toNat = (co 0 1).toNat + 1 by omega, sumZ_s, show (((co 0 1).toNat : Nat) : Int) = co 0 1 by omega, bz_t (updZ_at _ _ _)]
    rw [sumZ_c (g := fun j => bz (co 13 j = j)) (fun i i0 i1 => by rw [updZ_ne _ _ (by omega)])]
  have nc : ∀ x, 0 ≤ x → x < co 0 1 → ¬ Conn co x (co 0 1) := fun x x0 x1 c => by
    refine c (fun z => z < co 0 1) x1 (fun k x y k0 k1 _ _ y0 y1 _ hy _ => ?_) |> fun (z : co 0 1 < co 0 1) => absurd z (by omega)
    obtain ⟨-, j, j0, j1, j2⟩ := ts.2.2.1 k y k0 (by omega) y0 y1 hy
    have := (ts.1 k j k0 k1 j0 j1).1
    omega
  refine ⟨⟨ok2, ⟨?_, ?_, ?_, ?_⟩, h.inv.st.of E0 rfl rfl rfl rfl, h.inv.sn.of E0 rfl rfl rfl rfl, ?_, ?_⟩, ?_⟩
  · intro k j k0 k1 j0 j1
    have g := ts.1 k j k0 (by rw [← E0]; exact k1) j0 j1
    rw [E1]
    exact ⟨by have := g.1; show co 7 (k * 6 + j) < _; omega, g.2⟩
  · rw [E0]
    exact ts.2.1
  · rw [E0]
    exact ts.2.2.1
  · exact ts.2.2.2
  · rw [E1, R13]
    intro w w0 w1
    by_cases q : w = co 0 1
    · rw [q, nn, updZ_at]
      exact ⟨by omega, rfl⟩
    · have hh := rtF_lt hl 8 w w0 (by omega)
      rw [cg 8 w w0 (by omega), updZ_ne _ _ q, updZ_ne _ _ (by omega)]
      have g := gr.1 w w0 (by omega)
      exact ⟨by omega, g.2⟩
  · rw [E1, R13]
    have cc : ∀ x y, Conn (registerC co a) x y ↔ Conn co x y := fun x y => by
      unfold Conn hrd
      rw [E0]
      exact Iff.rfl
    intro w y w0 w1 y0 y1
    rw [cc]
    by_cases q : w = co 0 1
    · by_cases q2 : y = co 0 1
      · rw [q, q2]
        exact ⟨fun _ => Conn.rfl' _, fun _ => rfl⟩
      · have hh := rtF_lt hl 8 y y0 (by omega)
        rw [q, nn, cg 8 y y0 (by omega)]
        exact ⟨fun z => by omega, fun z => absurd z.symm (nc y y0 (by omega))⟩
    · have hh := rtF_lt hl 8 w w0 (by omega)
      by_cases q2 : y = co 0 1
      · rw [q2, nn, cg 8 w w0 (by omega)]
        exact ⟨fun z => by omega, fun z => absurd z (nc w w0 (by omega))⟩
      · rw [cg 8 w w0 (by omega), cg 8 y y0 (by omega)]
        exact gr.2 w y w0 (by omega) y0 (by omega)
  · unfold DpI
    rw [rn, E1, R13, show co 0 1 + 1 - (rnC co + 1) = co 0 1 - rnC co by omega]
    intro w w0 w1
    by_cases q : w = co 0 1
    · rw [q, nn, updZ_at]
    · have hh := rtF_lt hl (co 0 1 - rnC co).toNat w w0 (by omega)
      rw [cg _ w w0 (by omega), updZ_ne _ _ (by omega)]
      exact h.dp w w0 (by omega)
/-- a testimony, for or against -/
abbrev hearS (co : Nat → Int → Int) (k w z s : Int) : Nat → Int → Int := updC (updC (updC (updC (updC co 6 (updZ (co 6) k (co 6 k + 1))) 7 (updZ (co 7) (k * 6 + co 6 k) w)) 8 (updZ (co 8) (k * 8 + w) s)) 9 (updZ (co 9) (k * 8 + w) z)) 13 (updZ (co 13) (rtF (co 13) 8 w) (rtF (co 13) 8 ((updZ (co 7) (k * 6 + co 6 k) w) (k * 6 + 0))))
theorem hear_ts {co : Nat → Int → Int} (hO : OkC co) (ts : TsI co) {a b z s : Int} {G : Int → Int} (a0 : 0 ≤ a) (a1 : a < co 0 0) (b0 : 0 ≤ b) (b1 : b < co 0 1) (hh : ¬ hrd co a b) (h6 : co 6 a < 6) (hz : 1 ≤ z ∧ z ≤ 5) (hs : s = 1 ∨ s = -1) : TsI (updC (updC (updC (updC (updC co 6 (updZ (co 6) a (co 6 a + 1))) 7 (updZ (co 7) (a * 6 + co 6 a) b)) 8 (updZ (co 8) (a * 8 + b) s)) 9 (updZ (co 9) (a * 8 + b) z)) 13 G) := by
  have hb0 := hO.b0
  have hbw := hO.bw
  obtain ⟨t1, t2, t3, t4⟩ := ts
  have b6 := hO.b6 a
  have O7 : ∀ k j, 0 ≤ j → j < 6 → ¬ (k = a ∧ j = co 6 a) → updZ (co 7) (a * 6 + co 6 a) b (k * 6 + j) = co 7 (k * 6 + j) := fun k j j0 j1 q => updZ_ne _ _ (fun z => q (by omega))
  have OI : ∀ k j, 0 ≤ k → k < co 0 0 → 0 ≤ j → j < co 6 k → k * 8 + co 7 (k * 6 + j) ≠ a * 8 + b := fun k j k0 k1 j0 j1 z => by
    have g := (t1 k j k0 k1 j0 j1).2.1
    have b7 := hO.b7 (k * 6 + j)
    have e1 : k = a := by omega
    have e2 : co 7 (k * 6 + j) = b := by omega
    rw [e2, e1] at g
    exact hh g
  refine ⟨?_, ?_, ?_, ?_⟩
  · show ∀ k j, 0 ≤ k → k < co 0 0 → 0 ≤ j → j < updZ (co 6) a (co 6 a + 1) k → updZ (co 7) (a * 6 + co 6 a) b (k * 6 + j) < co 0 1 ∧ 0 < updZ (co 9) (a * 8 + b) z (k * 8 + updZ (co 7) (a * 6 + co 6 a) b (k * 6 + j)) ∧ (updZ (co 8) (a * 8 + b) s (k * 8 + updZ (co 7) (a * 6 + co 6 a) b (k * 6 + j)) = 1 ∨ updZ (co 8) (a * 8 + b) s (k * 8 + updZ (co 7) (a * 6 + co 6 a) b (k * 6 + j)) = -1)
    intro k j k0 k1 j0 j1
    by_cases q : k = a ∧ j = co 6 a
    · rw [q.1, q.2, updZ_at, updZ_at, updZ_at]
      exact ⟨b1, by omega, hs⟩
    · have hk6 := hO.b6 k
      have jl : j < co 6 k := by
        by_cases e : k = a
        · rw [e, updZ_at] at j1
          rw [e]
          omega
        · rw [updZ_ne _ _ e] at j1
          exact j1
      rw [O7 k j j0 (by omega) q, updZ_ne _ _ (OI k j k0 k1 j0 jl), updZ_ne _ _ (OI k j k0 k1 j0 jl)]
      exact t1 k j k0 k1 j0 jl
  · show ∀ k i j, 0 ≤ k → k < co 0 0 → 0 ≤ i → i < j → j < updZ (co 6) a (co 6 a + 1) k → updZ (co 7) (a * 6 + co 6 a) b (k * 6 + i) ≠ updZ (co 7) (a * 6 + co 6 a) b (k * 6 + j)
    intro k i j k0 k1 i0 ij j1
    have hk6 := hO.b6 k
    by_cases q : k = a ∧ j = co 6 a
    · have il : i < co 6 k := by
        rw [q.1]
        omega
      rw [O7 k i i0 (by omega) (fun z => by omega), q.1, q.2, updZ_at]
      intro z
      have o := OI k i k0 k1 i0 il
      rw [q.1] at o
      omega
    · have jl : j < co 6 k := by
        by_cases e : k = a
        · rw [e, updZ_at] at j1
          rw [e]
          omega
        · rw [updZ_ne _ _ e] at j1
          exact j1
      rw [O7 k i i0 (by omega) (fun z => by
        have := z.2
        have e := z.1
        rw [e] at jl
        omega), O7 k j (by omega) (by omega) q]
      exact t2 k i j k0 k1 i0 ij jl
  · show ∀ k w, 0 ≤ k → k < 16 → 0 ≤ w → w < 8 → 0 < updZ (co 9) (a * 8 + b) z (k * 8 + w) → k < co 0 0 ∧ ∃ j, 0 ≤ j ∧ j < updZ (co 6) a (co 6 a + 1) k ∧ updZ (co 7) (a * 6 + co 6 a) b (k * 6 + j) = w
    intro k w k0 k1 w0 w1 q
    by_cases e : k * 8 + w = a * 8 + b
    · have e1 : k = a := by omega
      have e2 : w = b := by omega
      subst e1
      subst e2
      exact ⟨a1, co 6 k, b6.1, by rw [updZ_at]; omega, updZ_at _ _ _⟩
    · rw [updZ_ne _ _ e] at q
      obtain ⟨g1, j, j0, j1, j2⟩ := t3 k w k0 k1 w0 w1 q
      have hk6 := hO.b6 k
      refine ⟨g1, j, j0, ?_, ?_⟩
      · by_cases e3 : k = a
        · rw [e3, updZ_at]
          rw [e3] at j1
          omega
        · rw [updZ_ne _ _ e3]
          exact j1
      · rw [O7 k j j0 (by omega) (fun z => by
          have := z.2
          have e := z.1
          rw [e] at j1
          omega)]
        exact j2
  · show ∀ k w, 0 ≤ k → k < 16 → 0 ≤ w → w < 8 → ¬ 0 < updZ (co 9) (a * 8 + b) z (k * 8 + w) → updZ (co 8) (a * 8 + b) s (k * 8 + w) = 0 ∧ co 10 (k * 8 + w) = 0
    intro k w k0 k1 w0 w1 q
    by_cases e : k * 8 + w = a * 8 + b
    · rw [e, updZ_at] at q
      omega
    · rw [updZ_ne _ _ e] at q ⊢
      exact t4 k w k0 k1 w0 w1 q

