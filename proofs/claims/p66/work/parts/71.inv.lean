/-! what every court of a run holds, kept by each change -/
theorem TsI.of10 {co co' : Nat → Int → Int} (h : TsI co) (e0 : co' 0 0 = co 0 0) (e1 : co' 0 1 = co 0 1) (e6 : co' 6 = co 6) (e7 : co' 7 = co 7) (e8 : co' 8 = co 8) (e9 : co' 9 = co 9) (h10 : ∀ k w, 0 ≤ k → k < 16 → 0 ≤ w → w < 8 → ¬ hrd co k w → co' 10 (k * 8 + w) = 0) : TsI co' := by
  obtain ⟨t1, t2, t3, t4⟩ := h
  refine ⟨?_, ?_, ?_, ?_⟩
  · rw [e0, e1, e6, e7, e8, e9]
    exact t1
  · rw [e0, e6, e7]
    exact t2
  · unfold hrd
    rw [e0, e6, e7, e9]
    exact t3
  · intro k w k0 k1 w0 w1 q
    unfold hrd at q
    rw [e9] at q
    rw [e8]
    exact ⟨(t4 k w k0 k1 w0 w1 q).1, h10 k w k0 k1 w0 w1 q⟩
theorem TsI.of {co co' : Nat → Int → Int} (h : TsI co) (e0 : co' 0 0 = co 0 0) (e1 : co' 0 1 = co 0 1) (e6 : co' 6 = co 6) (e7 : co' 7 = co 7) (e8 : co' 8 = co 8) (e9 : co' 9 = co 9) (e10 : co' 10 = co 10) : TsI co' :=
  h.of10 e0 e1 e6 e7 e8 e9 (fun k w k0 k1 w0 w1 q => by rw [e10]; exact (h.2.2.2 k w k0 k1 w0 w1 q).2)
theorem StI.of {co co' : Nat → Int → Int} (h : StI co) (e0 : co' 0 0 = co 0 0) (e3 : co' 3 = co 3) (e4 : co' 4 = co 4) (e5 : co' 5 = co 5) (e6 : co' 6 = co 6) : StI co' := by
  unfold StI
  rw [e0, e3, e4, e5, e6]
  exact h
theorem SnI.of {co co' : Nat → Int → Int} (h : SnI co) (e0 : co' 0 0 = co 0 0) (e1 : co' 1 = co 1) (e2 : co' 2 = co 2) (e4 : co' 4 = co 4) (e12 : co' 12 = co 12) : SnI co' := by
  unfold SnI snC
  rw [e0, e1, e2, e4, e12]
  exact h
theorem GrI.of {co co' : Nat → Int → Int} (h : GrI co) (e0 : co' 0 0 = co 0 0) (e1 : co' 0 1 = co 0 1) (e9 : co' 9 = co 9) (e13 : co' 13 = co 13) : GrI co' := by
  unfold GrI Conn hrd
  rw [e0, e1, e9, e13]
  exact h
/-- how many roots there are; a chain of parents is at most as long as there are others -/
def rnC (co : Nat → Int → Int) : Int := sumZ (fun j => bz (co 13 j = j)) (co 0 1).toNat
def DpI (co : Nat → Int → Int) : Prop := ∀ w, 0 ≤ w → w < co 0 1 → co 13 (rtF (co 13) (co 0 1 - rnC co).toNat w) = rtF (co 13) (co 0 1 - rnC co).toNat w
theorem DpI.of {co co' : Nat → Int → Int} (h : DpI co) (e1 : co' 0 1 = co 0 1) (e13 : co' 13 = co 13) : DpI co' := by
  unfold DpI rnC
  rw [e1, e13]
  exact h
def InvD (co : Nat → Int → Int) : Prop := InvC co ∧ DpI co
theorem InvD.inv {co : Nat → Int → Int} (h : InvD co) : InvC co := h.1
theorem InvD.dp {co : Nat → Int → Int} (h : InvD co) : DpI co := h.2
theorem OkC.s0 {co : Nat → Int → Int} (h : OkC co) {i v : Int} (h0 : i ≠ 0) (h1 : i ≠ 1) : OkC (updC co 0 (updZ (co 0) i v)) :=
  h.sc (by rw [updZ_ne _ _ (Ne.symm h0)]; exact h.b0) (by rw [updZ_ne _ _ (Ne.symm h1)]; exact h.bw)
theorem updZ_self {g : Int → Int} {i v : Int} (h : g i = v) : updZ g i v = g := by
  funext j
  unfold updZ
  split
  · rename_i e
    rw [e, h]
  · rfl
theorem ask_inv {co : Nat → Int → Int} (h : InvD co) {a b s v : Int} (a0 : 0 ≤ a) (a1 : a < co 0 0) (b0 : 0 ≤ b) (b1 : b < co 0 1) (hh : hrd co a b) (h10 : co 10 (a * 8 + b) < 2) (hv : 0 ≤ v ∧ v ≤ 9) : InvD (updC (updC (updC co 0 (updZ (co 0) 3 s)) 10 (updZ (co 10) (a * 8 + b) (co 10 (a * 8 + b) + 1))) 11 (updZ (co 11) b v)) := by
  have hO := h.inv.ok
  have hb0 := hO.b0
  have hbw := hO.bw
  have h10b := hO.b10 (a * 8 + b)
  have e0 : updZ (co 0) 3 s 0 = co 0 0 := updZ_ne _ _ (by decide)
  have e1 : updZ (co 0) 3 s 1 = co 0 1 := updZ_ne _ _ (by decide)
  have ok1 : OkC (updC co 0 (updZ (co 0) 3 s)) := hO.s0 (by decide) (by decide)
  have ok2 : OkC (updC (updC co 0 (updZ (co 0) 3 s)) 10 (updZ (co 10) (a * 8 + b) (co 10 (a * 8 + b) + 1))) := ok1.upd (r := 10) (by decide) (by decide) ⟨by show (0 : Int) ≤ _; omega, by show _ ≤ (2 : Int); omega⟩
  have ok3 := ok2.upd (r := 11) (i := b) (v := v) (by decide) (by decide) hv
  refine ⟨⟨ok3, ?_, h.inv.st.of e0 rfl rfl rfl rfl, h.inv.sn.of e0 rfl rfl rfl rfl, h.inv.gr.of e0 e1 rfl rfl⟩, h.dp.of e1 rfl⟩
  refine h.inv.ts.of10 e0 e1 rfl rfl rfl rfl (fun k w k0 k1 w0 w1 q => ?_)
  show updZ (co 10) (a * 8 + b) (co 10 (a * 8 + b) + 1) (k * 8 + w) = 0
  rw [updZ_ne _ _ (fun z => by
    have e1 : k = a := by omega
    have e2 : w = b := by omega
    subst e1
    subst e2
    exact q hh)]
  exact (h.inv.ts.2.2.2 k w k0 k1 w0 w1 q).2
theorem SnI.one {co co' : Nat → Int → Int} (h : SnI co) {a v x : Int} (a0 : 0 ≤ a) (a1 : a < co 0 0) (e0 : co' 0 0 = co 0 0) (e1 : co' 1 = co 1) (e2 : co' 2 = co 2) (e4 : co' 4 = updZ (co 4) a v) (e12 : co' 12 = updZ (co 12) (co 1 a) (co 12 (co 1 a) + x)) (hx : x = (if v = 0 then 0 else co 2 a + 1) - (if co 4 a = 0 then 0 else co 2 a + 1)) : SnI co' := by
  intro d d0 d1
  have hd := h d d0 d1
  unfold snC at hd ⊢
  rw [e0, e1, e2, e4, e12]
  have e : sumZ (fun j => if co 1 j = d ∧ ¬ updZ (co 4) a v j = 0 then co 2 j + 1 else 0) (co 0 0).toNat = sumZ (fun j => updZ (fun j => if co 1 j = d ∧ ¬ co 4 j = 0 then co 2 j + 1 else 0) a (if co 1 a = d ∧ ¬ v = 0 then co 2 a + 1 else 0) j) (co 0 0).toNat := sumZ_c (fun i i0 i1 => by
    by_cases q : i = a
    · subst q
      rw [updZ_at, updZ_at]
    · rw [updZ_ne _ _ q, updZ_ne _ _ q])
  rw [e, sumZ_upd _ a0 (by omega), ← hd]
  by_cases q : d = co 1 a
  · subst q
    rw [updZ_at, hx]
    by_cases v1 : v = 0 <;> by_cases v2 : co 4 a = 0 <;> simp [v1, v2]
  · rw [updZ_ne _ _ q, if_neg (fun z => q z.1.symm), if_neg (fun z => q z.1.symm)]
    omega
theorem snC_b {co : Nat → Int → Int} (h0 : 0 ≤ co 0 0 ∧ co 0 0 ≤ 16) (h2 : ∀ j, 0 ≤ co 2 j ∧ co 2 j ≤ 4) (d : Int) : 0 ≤ snC co d ∧ snC co d ≤ 80 := by
  have h := sumZ_b (f := fun j => if co 1 j = d ∧ ¬ co 4 j = 0 then co 2 j + 1 else 0) (lo := 0) (hi := 5) (n := (co 0 0).toNat) (fun j _ _ => by
    have := h2 j
    split <;> omega)
  unfold snC
  omega
/-- a verdict or a new hearing -/
theorem jud_inv {co : Nat → Int → Int} (h : InvD co) {a y v w : Int} {cA : Nat → Int → Int} (a0 : 0 ≤ a) (a1 : a < co 0 0) (okA : OkC cA) (e0 : cA 0 0 = co 0 0) (e1 : cA 0 1 = co 0 1) (r1 : cA 1 = co 1) (r2 : cA 2 = co 2) (r3 : cA 3 = updZ (co 3) a y) (r4 : cA 4 = updZ (co 4) a v) (r5 : cA 5 = updZ (co 5) a w) (r6 : cA 6 = co 6) (r7 : cA 7 = co 7) (r8 : cA 8 = co 8) (r9 : cA 9 = co 9) (r10 : cA 10 = co 10) (r13 : cA 13 = co 13) (sn : SnI cA) (hy : (y = 0 → v = 0) ∧ (y = 1 → w < 2)) : InvD cA := by
  refine ⟨⟨okA, h.inv.ts.of e0 e1 r6 r7 r8 r9 r10, ?_, sn, h.inv.gr.of e0 e1 r9 r13⟩, h.dp.of e1 r13⟩
  have st := h.inv.st
  refine ⟨fun k k0 k1 => ?_, fun k k0 k1 => ?_⟩
  · rw [e0] at k0
    have ne : k ≠ a := by omega
    rw [r4, r5, r6, updZ_ne _ _ ne, updZ_ne _ _ ne]
    exact st.1 k k0 k1
  · rw [e0] at k1
    rw [r3, r4, r5]
    by_cases ne : k = a
    · subst ne
      rw [updZ_at, updZ_at, updZ_at]
      exact hy
    · rw [updZ_ne _ _ ne, updZ_ne _ _ ne, updZ_ne _ _ ne]
      exact st.2 k k0 k1
/-- a new verdict on a case that is heard -/
theorem judge1_inv {co : Nat → Int → Int} (h : InvD co) {a y s : Int} (a0 : 0 ≤ a) (a1 : a < co 0 0) (h3 : co 3 a = 0) (hy : y = 2 ∨ y = 1 ∧ co 5 a < 2) : InvD (updC (updC (updC (updC co 0 (updZ (co 0) 2 s)) 3 (updZ (co 3) a y)) 4 (updZ (co 4) a 1)) 12 (updZ (co 12) (co 1 a) (co 12 (co 1 a) + (co 2 a + 1)))) := by
  have hO := h.inv.ok
  have h4 := (h.inv.st.2 a a0 a1).1 h3
  have hb1 := hO.b1 a
  have hb2 := hO.b2 a
  have e0 : updZ (co 0) 2 s 0 = co 0 0 := updZ_ne _ _ (by decide)
  have e1 : updZ (co 0) 2 s 1 = co 0 1 := updZ_ne _ _ (by decide)
  have ok1 : OkC (updC co 0 (updZ (co 0) 2 s)) := hO.s0 (by decide) (by decide)
  have ok2 : OkC (updC (updC co 0 (updZ (co 0) 2 s)) 3 (updZ (co 3) a y)) := ok1.upd (r := 3) (by decide) (by decide) ⟨by show (0 : Int) ≤ _; omega, by show _ ≤ (2 : Int); omega⟩
  have ok3 : OkC (updC (updC (updC co 0 (updZ (co 0) 2 s)) 3 (updZ (co 3) a y)) 4 (updZ (co 4) a 1)) := ok2.upd (r := 4) (by decide) (by decide) ⟨by show (0 : Int) ≤ _; omega, by show _ ≤ (1 : Int); omega⟩
  have sn : SnI (updC (updC (updC (updC co 0 (updZ (co 0) 2 s)) 3 (updZ (co 3) a y)) 4 (updZ (co 4) a 1)) 12 (updZ (co 12) (co 1 a) (co 12 (co 1 a) + (co 2 a + 1)))) := h.inv.sn.one a0 a1 e0 rfl rfl rfl rfl (by rw [h4]; simp)
  have sb := snC_b (co := updC (updC (updC (updC co 0 (updZ (co 0) 2 s)) 3 (updZ (co 3) a y)) 4 (updZ (co 4) a 1)) 12 (updZ (co 12) (co 1 a) (co 12 (co 1 a) + (co 2 a + 1)))) (by show 0 ≤ updZ (co 0) 2 s 0 ∧ updZ (co 0) 2 s 0 ≤ 16; rw [e0]; exact hO.b0) (fun j => hO.b2 j) (co 1 a)
  have sv := sn (co 1 a) hb1.1 (by omega)
  rw [← sv] at sb
  have sb : 0 ≤ updZ (co 12) (co 1 a) (co 12 (co 1 a) + (co 2 a + 1)) (co 1 a) ∧ updZ (co 12) (co 1 a) (co 12 (co 1 a) + (co 2 a + 1)) (co 1 a) ≤ 80 := sb
  rw [updZ_at] at sb
  have ok4 := ok3.upd (r := 12) (i := co 1 a) (v := co 12 (co 1 a) + (co 2 a + 1)) (by decide) (by decide) ⟨by show (0 : Int) ≤ _; omega, by show _ ≤ (100 : Int); omega⟩
  exact jud_inv h (y := y) (v := 1) (w := co 5 a) a0 a1 ok4 e0 e1 rfl rfl rfl rfl (updZ_self rfl).symm rfl rfl rfl rfl rfl rfl sn ⟨fun z => by omega, fun z => by omega⟩
theorem judge0_inv {co : Nat → Int → Int} (h : InvD co) {a y s : Int} (a0 : 0 ≤ a) (a1 : a < co 0 0) (h3 : co 3 a = 0) (hy : y = 2 ∨ y = 1 ∧ co 5 a < 2) : InvD (updC (updC (updC co 0 (updZ (co 0) 2 s)) 3 (updZ (co 3) a y)) 4 (updZ (co 4) a 0)) := by
  have hO := h.inv.ok
  have h4 := (h.inv.st.2 a a0 a1).1 h3
  have e0 : updZ (co 0) 2 s 0 = co 0 0 := updZ_ne _ _ (by decide)
  have e1 : updZ (co 0) 2 s 1 = co 0 1 := updZ_ne _ _ (by decide)
  have ok1 : OkC (updC co 0 (updZ (co 0) 2 s)) := hO.s0 (by decide) (by decide)
  have ok2 : OkC (updC (updC co 0 (updZ (co 0) 2 s)) 3 (updZ (co 3) a y)) := ok1.upd (r := 3) (by decide) (by decide) ⟨by show (0 : Int) ≤ _; omega, by show _ ≤ (2 : Int); omega⟩
  have ok3 : OkC (updC (updC (updC co 0 (updZ (co 0) 2 s)) 3 (updZ (co 3) a y)) 4 (updZ (co 4) a 0)) := ok2.upd (r := 4) (by decide) (by decide) ⟨by show (0 : Int) ≤ _; omega, by show _ ≤ (1 : Int); omega⟩
  exact jud_inv h (y := y) (v := 0) (w := co 5 a) a0 a1 ok3 e0 e1 rfl rfl rfl rfl (updZ_self rfl).symm rfl rfl rfl rfl rfl rfl (h.inv.sn.of e0 rfl rfl (updZ_self h4) rfl) ⟨fun _ => rfl, fun z => by omega⟩
theorem reopen1_inv {co : Nat → Int → Int} (h : InvD co) {a : Int} (a0 : 0 ≤ a) (a1 : a < co 0 0) (h3 : co 3 a = 1) (h4 : ¬ co 4 a = 0) : InvD (reopenC1 co a) := by
  have hO := h.inv.ok
  have h5 := (h.inv.st.2 a a0 a1).2 h3
  have h5b := hO.b5 a
  have hb1 := hO.b1 a
  have hb2 := hO.b2 a
  have ok1 : OkC (updC co 3 (updZ (co 3) a 0)) := hO.upd (r := 3) (by decide) (by decide) ⟨by show (0 : Int) ≤ _; omega, by show _ ≤ (2 : Int); omega⟩
  have ok2 : OkC (updC (updC co 3 (updZ (co 3) a 0)) 4 (updZ (co 4) a 0)) := ok1.upd (r := 4) (by decide) (by decide) ⟨by show (0 : Int) ≤ _; omega, by show _ ≤ (1 : Int); omega⟩
  have ok3 : OkC (updC (updC (updC co 3 (updZ (co 3) a 0)) 4 (updZ (co 4) a 0)) 5 (updZ (co 5) a (co 5 a + 1))) := ok2.upd (r := 5) (by decide) (by decide) ⟨by show (0 : Int) ≤ _; omega, by show _ ≤ (2 : Int); omega⟩
  have sn : SnI (reopenC1 co a) := h.inv.sn.one a0 a1 rfl rfl rfl rfl rfl (by rw [if_pos rfl, if_neg h4]; omega)
  have sb := snC_b (co := reopenC1 co a) hO.b0 (fun j => hO.b2 j) (co 1 a)
  have sv := sn (co 1 a) hb1.1 (by omega)
  rw [← sv] at sb
  have sb : 0 ≤ updZ (co 12) (co 1 a) (co 12 (co 1 a) + (-(co 2 a + 1))) (co 1 a) ∧ updZ (co 12) (co 1 a) (co 12 (co 1 a) + (-(co 2 a + 1))) (co 1 a) ≤ 80 := sb
  rw [updZ_at] at sb
  have ok4 := ok3.upd (r := 12) (i := co 1 a) (v := co 12 (co 1 a) + (-(co 2 a + 1))) (by decide) (by decide) ⟨by show (0 : Int) ≤ _; omega, by show _ ≤ (100 : Int); omega⟩
  exact jud_inv h (y := 0) (v := 0) (w := co 5 a + 1) a0 a1 ok4 rfl rfl rfl rfl rfl rfl rfl rfl rfl rfl rfl rfl rfl sn ⟨fun _ => rfl, fun z => absurd z (by decide)⟩
theorem reopen0_inv {co : Nat → Int → Int} (h : InvD co) {a : Int} (a0 : 0 ≤ a) (a1 : a < co 0 0) (h3 : co 3 a = 1) (h4 : co 4 a = 0) : InvD (reopenC0 co a) := by
  have hO := h.inv.ok
  have h5 := (h.inv.st.2 a a0 a1).2 h3
  have h5b := hO.b5 a
  have ok1 : OkC (updC co 3 (updZ (co 3) a 0)) := hO.upd (r := 3) (by decide) (by decide) ⟨by show (0 : Int) ≤ _; omega, by show _ ≤ (2 : Int); omega⟩
  have ok2 : OkC (updC (updC co 3 (updZ (co 3) a 0)) 4 (updZ (co 4) a 0)) := ok1.upd (r := 4) (by decide) (by decide) ⟨by show (0 : Int) ≤ _; omega, by show _ ≤ (1 : Int); omega⟩
  have ok3 : OkC (updC (updC (updC co 3 (updZ (co 3) a 0)) 4 (updZ (co 4) a 0)) 5 (updZ (co 5) a (co 5 a + 1))) := ok2.upd (r := 5) (by decide) (by decide) ⟨by show (0 : Int) ≤ _; omega, by show _ ≤ (2 : Int); omega⟩
  exact jud_inv h (y := 0) (v := 0) (w := co 5 a + 1) a0 a1 ok3 rfl rfl rfl rfl rfl rfl rfl rfl rfl rfl rfl rfl rfl (h.inv.sn.of rfl rfl rfl (updZ_self h4) rfl) ⟨fun _ => rfl, fun z => absurd z (by decide)⟩
theorem finish_inv {co : Nat → Int → Int} (h : InvD co) {a : Int} (a0 : 0 ≤ a) (a1 : a < co 0 0) : InvD (finishC co a) := by
  have hO := h.inv.ok
  have ok1 : OkC (updC co 3 (updZ (co 3) a 2)) := hO.upd (r := 3) (by decide) (by decide) ⟨by show (0 : Int) ≤ _; omega, by show _ ≤ (2 : Int); omega⟩
  exact jud_inv h (y := 2) (v := co 4 a) (w := co 5 a) a0 a1 ok1 rfl rfl rfl rfl rfl (updZ_self rfl).symm (updZ_self rfl).symm rfl rfl rfl rfl rfl rfl (h.inv.sn.of rfl rfl rfl rfl rfl) ⟨fun z => absurd z (by decide), fun z => absurd z (by decide)⟩
/-- a new case -/
theorem open_inv {co : Nat → Int → Int} (h : InvD co) {d o : Int} (hc : co 0 0 < 16) (hd : 0 ≤ d ∧ d < 6) (ho : 0 ≤ o ∧ o < 5) : InvD (openC co d o) := by
  have hO := h.inv.ok
  have hb0 := hO.b0
  have st := h.inv.st
  have ts := h.inv.ts
  have n0 := st.1 (co 0 0) (by omega) (by omega)
  have e0 : updZ (co 0) 0 (co 0 0 + 1) 0 = co 0 0 + 1 := updZ_at _ _ _
  have e1 : updZ (co 0) 0 (co 0 0 + 1) 1 = co 0 1 := updZ_ne _ _ (by decide)
  have ok0 : OkC (updC co 0 (updZ (co 0) 0 (co 0 0 + 1))) := hO.sc (by rw [e0]; omega) (by rw [e1]; exact hO.bw)
  have ok1 : OkC (updC (updC co 0 (updZ (co 0) 0 (co 0 0 + 1))) 1 (updZ (co 1) (co 0 0) d)) := ok0.upd (r := 1) (by decide) (by decide) ⟨hd.1, by show _ ≤ (5 : Int); omega⟩
  have ok2 : OkC (updC (updC (updC co 0 (updZ (co 0) 0 (co 0 0 + 1))) 1 (updZ (co 1) (co 0 0) d)) 2 (updZ (co 2) (co 0 0) o)) := ok1.upd (r := 2) (by decide) (by decide) ⟨ho.1, by show _ ≤ (4 : Int); omega⟩
  have ok3 := ok2.upd (r := 3) (i := co 0 0) (v := 0) (by decide) (by decide) ⟨by show (0 : Int) ≤ _; omega, by show _ ≤ (2 : Int); omega⟩
  have nh : ∀ x, 0 ≤ x → x < 8 → ¬ hrd co (co 0 0) x := fun x x0 x1 q => by
    have := (ts.2.2.1 (co 0 0) x (by omega) (by omega) x0 x1 q).1
    omega
  have E0 : openC co d o 0 0 = co 0 0 + 1 := e0
  have E1 : openC co d o 0 1 = co 0 1 := e1
  have R1 : openC co d o 1 = updZ (co 1) (co 0 0) d := rfl
  have R2 : openC co d o 2 = updZ (co 2) (co 0 0) o := rfl
  have R3 : openC co d o 3 = updZ (co 3) (co 0 0) 0 := rfl
  have R4 : openC co d o 4 = co 4 := rfl
  have R5 : openC co d o 5 = co 5 := rfl
  have R6 : openC co d o 6 = co 6 := rfl
  have R7 : openC co d o 7 = co 7 := rfl
  have R8 : openC co d o 8 = co 8 := rfl
  have R9 : openC co d o 9 = co 9 := rfl
  have R10 : openC co d o 10 = co 10 := rfl
  have R12 : openC co d o 12 = co 12 := rfl
  have R13 : openC co d o 13 = co 13 := rfl
  refine ⟨⟨ok3, ⟨?_, ?_, ?_, ?_⟩, ⟨?_, ?_⟩, ?_, ?_⟩, h.dp.of E1 R13⟩
  · rw [E0, E1, R6, R7, R8, R9]
    intro k j k0 k1 j0 j1
    have : k ≠ co 0 0 := fun z => by rw [z] at j1; omega
    exact ts.1 k j k0 (by omega) j0 j1
  · rw [E0, R6, R7]
    intro k i j k0 k1 i0 ij j1
    have : k ≠ co 0 0 := fun z => by rw [z] at j1; omega
    exact ts.2.1 k i j k0 (by omega) i0 ij j1
  · unfold hrd
    rw [E0, R6, R7, R9]
    intro k w k0 k1 w0 w1 q
    have g := ts.2.2.1 k w k0 k1 w0 w1 q
    exact ⟨by omega, g.2⟩
  · unfold hrd
    rw [R8, R9, R10]
    exact ts.2.2.2
  · rw [E0, R4, R5, R6]
    intro k k0 k1
    exact st.1 k (by omega) k1
  · rw [E0, R3, R4, R5]
    intro k k0 k1
    by_cases q : k = co 0 0
    · rw [q, updZ_at]
      exact ⟨fun _ => n0.1, fun z => absurd z (by decide)⟩
    · rw [updZ_ne _ _ q]
      exact st.2 k k0 (by omega)
  · intro d' d0 d1
    have g := h.inv.sn d' d0 d1
    unfold snC at g ⊢
    rw [E0, R1, R2, R4, R12, g, show (co 0 0 + 1).toNat = (co 0 0).toNat + 1 by omega, sumZ_s, show (((co 0 0).toNat : Nat) : Int) = co 0 0 by omega, if_neg (fun z => z.2 n0.1), Int.add_zero]
    exact sumZ_c (fun i i0 i1 => by rw [updZ_ne _ _ (by omega), updZ_ne _ _ (by omega)])
  · unfold GrI Conn hrd
    rw [E0, E1, R9, R13]
    refine ⟨h.inv.gr.1, fun w y w0 w1 y0 y1 => (h.inv.gr.2 w y w0 w1 y0 y1).trans ?_⟩
    constructor
    · intro c S Sa cl
      exact c S Sa (fun k x z k0 k1 => cl k x z k0 (by omega))
    · intro c S Sa cl
      refine c S Sa (fun k x z k0 k1 x0 x1 z0 z1 p q => ?_)
      by_cases e : k = co 0 0
      · rw [e] at p
        exact absurd p (nh x x0 x1)
      · exact cl k x z k0 (by omega) x0 x1 z0 z1 p q
/-- chains of parents -/
theorem rtF_fix {g : Int → Int} : ∀ (m : Nat) (w : Int), g (rtF g m w) = rtF g m w → ∀ n, m ≤ n → rtF g n w = rtF g m w
  | 0, w, h, n, _ => rtF_root n w h
  | m + 1, w, h, n, hn => by
    obtain ⟨n', rfl⟩ : ∃ n', n = n' + 1 := ⟨n - 1, by omega⟩
    rw [rtF_s, rtF_s]
    rw [rtF_s] at h
    by_cases e : g w = w
    · rw [if_pos e, if_pos e]
    · rw [if_neg e, if_neg e]
      rw [if_neg e] at h
      exact rtF_fix m (g w) h n' (by omega)
theorem rtF_lt {g : Int → Int} {N : Int} (hG : ∀ i : Int, 0 ≤ i → i < N → 0 ≤ g i ∧ g i < N) : ∀ (n : Nat) (x : Int), 0 ≤ x → x < N → 0 ≤ rtF g n x ∧ rtF g n x < N
  | 0, x, h0, h1 => ⟨h0, h1⟩
  | n + 1, x, h0, h1 => by
    rw [rtF_s]
    split
    · exact ⟨h0, h1⟩
    · exact rtF_lt hG n (g x) (hG x h0 h1).1 (hG x h0 h1).2
theorem rtF_cg {g g' : Int → Int} {N : Int} (hG : ∀ i : Int, 0 ≤ i → i < N → 0 ≤ g i ∧ g i < N) (e : ∀ i : Int, 0 ≤ i → i < N → g' i = g i) : ∀ (n : Nat) (x : Int), 0 ≤ x → x < N → rtF g' n x = rtF g n x
  | 0, _, _, _ => rfl
  | n + 1, x, h0, h1 => by
    rw [rtF_s, rtF_s, e x h0 h1]
    split
    · rfl
    · exact rtF_cg hG e n (g x) (hG x h0 h1).1 (hG x h0 h1).2
/-- one root set under another -/
theorem rtF_un {g : Int → Int} {r q : Int} (hr : g r = r) (hq : g q = q) : ∀ (m : Nat) (w : Int), g (rtF g m w) = rtF g m w → rtF (updZ g r q) (m + 1) w = (if rtF g m w = r then q else rtF g m w) ∧ updZ g r q (if rtF g m w = r then q else rtF g m w) = (if rtF g m w = r then q else rtF g m w) := by
  have hqq : updZ g r q q = q := by
    by_cases e : q = r
    · rw [e, updZ_at]
    · rw [updZ_ne _ _ e, hq]
  intro m
  induction m with
  | zero =>
    intro w h
    have h : g w = w := h
    show rtF (updZ g r q) 1 w = (if w = r then q else w) ∧ updZ g r q (if w = r then q else w) = (if w = r then q else w)
    by_cases e : w = r
    · subst e
      rw [if_pos rfl]
      refine ⟨?_, hqq⟩
      rw [rtF_s, updZ_at]
      split
      · rename_i z
        exact z.symm
      · rfl
    · rw [if_neg e]
      have : updZ g r q w = w := by rw [updZ_ne _ _ e, h]
      exact ⟨rtF_root _ _ this, this⟩
  | succ m ih =>
    intro w h
    by_cases e : g w = w
    · have e2 : rtF g (m + 1) w = w := rtF_root _ _ e
      rw [e2]
      by_cases e3 : w = r
      · subst e3
        rw [if_pos rfl]
        refine ⟨?_, hqq⟩
        rw [rtF_s, updZ_at]
        split
        · rename_i z
          exact z.symm
        · exact rtF_root _ _ hqq
      · rw [if_neg e3]
        have : updZ g r q w = w := by rw [updZ_ne _ _ e3, e]
        exact ⟨rtF_root _ _ this, this⟩
    · have e2 : rtF g (m + 1) w = rtF g m (g w) := by rw [rtF_s, if_neg e]
      have e3 : w ≠ r := fun z => e (by rw [z]; exact hr)
      rw [e2] at h ⊢
      have i := ih (g w) h
      refine ⟨?_, i.2⟩
      rw [rtF_s, updZ_ne _ _ e3, if_neg e]
      exact i.1

