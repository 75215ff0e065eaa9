/-! the class's docket is the order of the ranks -/
abbrev opn (co : Nat → Int → Int) (j : Int) : Prop := co 3 j = 0
def rkI (co : Nat → Int → Int) (i : Nat) (k : Int) : Int := sumZ (fun j => bz (co 3 j = 0 ∧ cbC co j k)) i
theorem cb_ir {co : Nat → Int → Int} {x : Int} : ¬ cbC co x x := by
  unfold cbC
  omega
theorem cb_tr {co : Nat → Int → Int} {x y z : Int} (h : cbC co x y) (g : cbC co y z) : cbC co x z := by
  unfold cbC at *
  omega
theorem cb_to {co : Nat → Int → Int} {x y : Int} (h : ¬ x = y) (g : ¬ cbC co x y) : cbC co y x := by
  unfold cbC at *
  omega
theorem rk_lt {co : Nat → Int → Int} {i : Nat} {j k : Int} (j0 : 0 ≤ j) (j1 : j < i) (oj : co 3 j = 0) (h : cbC co j k) : rkI co i j < rkI co i k := by
  have e := sumZ_upd (f := fun x => bz (co 3 x = 0 ∧ cbC co x j)) (w := j) (v := 1) i j0 j1
  have l := sumZ_le (f := fun x => updZ (fun x => bz (co 3 x = 0 ∧ cbC co x j)) j 1 x) (g := fun x => bz (co 3 x = 0 ∧ cbC co x k)) (n := i) (fun x x0 x1 => by
    by_cases q : x = j
    · rw [q, updZ_at, bz_t ⟨oj, h⟩]
      exact Int.le_refl _
    · rw [updZ_ne _ _ q]
      by_cases c : co 3 x = 0 ∧ cbC co x j
      · rw [bz_t c, bz_t ⟨c.1, cb_tr c.2 h⟩]
        exact Int.le_refl _
      · rw [bz_f c]
        exact bz_rg.1)
  rw [bz_f (fun z => cb_ir z.2)] at e
  unfold rkI
  omega
theorem rk_iff {co : Nat → Int → Int} {i : Nat} {j k : Int} (j0 : 0 ≤ j) (j1 : j < i) (oj : co 3 j = 0) (k0 : 0 ≤ k) (k1 : k < i) (ok : co 3 k = 0) : cbC co j k ↔ rkI co i j < rkI co i k := by
  constructor
  · exact rk_lt j0 j1 oj
  · intro h
    apply Classical.byContradiction
    intro c
    by_cases q : j = k
    · rw [q] at h
      omega
    · have := rk_lt (i := i) k0 k1 ok (cb_to q c)
      omega
/-- ranks and places -/
def DkI (co : Nat → Int → Int) (g : Int → Int) (n i : Nat) : Prop := (∀ k : Int, 0 ≤ k → k < i → co 3 k = 0 → 0 ≤ rkI co i k ∧ rkI co i k < n ∧ g (rkI co i k) = k) ∧ (∀ p : Int, 0 ≤ p → p < n → 0 ≤ g p ∧ g p < i ∧ co 3 (g p) = 0 ∧ rkI co i (g p) = p) ∧ (n : Int) = sumZ (fun j => bz (co 3 j = 0)) i
theorem ipF_at {co : Nat → Int → Int} {g : Int → Int} {i : Int} : ∀ m : Nat, (∀ p : Int, (ipF co g i m : Int) ≤ p → p < m → cbC co i (g p)) ∧ (ipF co g i m = 0 ∨ ¬ cbC co i (g ((ipF co g i m : Int) - 1)))
  | 0 => ⟨fun p a b => by have := ipF_le co g i 0; omega, Or.inl rfl⟩
  | m + 1 => by
    have I := ipF_at (co := co) (g := g) (i := i) m
    rw [ipF_s]
    by_cases c : cbC co i (g (m : Int))
    · rw [if_pos c]
      refine ⟨fun p a b => ?_, I.2⟩
      by_cases q : p = m
      · rw [q]
        exact c
      · exact I.1 p a (by omega)
    · rw [if_neg c]
      refine ⟨fun p a b => by omega, Or.inr ?_⟩
      rw [show ((m + 1 : Nat) : Int) - 1 = (m : Int) by omega]
      exact c
theorem rkI_s (co : Nat → Int → Int) (i : Nat) (k : Int) : rkI co (i + 1) k = rkI co i k + bz (co 3 (i : Int) = 0 ∧ cbC co (i : Int) k) := rfl
theorem dk_step {co : Nat → Int → Int} {g : Int → Int} {n i : Nat} (h : DkI co g n i) (o : co 3 (i : Int) = 0) : DkI co (insG co g n (i : Int)) (n + 1) (i + 1) := by
  obtain ⟨A, B, C⟩ := h
  have hle := ipF_le co g (i : Int) n
  have ip := ipF_at (co := co) (g := g) (i := (i : Int)) n
  obtain ⟨pl, hp⟩ : ∃ pl : Nat, pl = ipF co g (i : Int) n := ⟨_, rfl⟩
  have G : ∀ p, insG co g n (i : Int) p = if p = (pl : Int) then (i : Int) else if (pl : Int) < p ∧ p ≤ n then g (p - 1) else g p := fun p => by
    rw [hp]
    rfl
  rw [← hp] at ip hle
  have ch : ∀ p : Int, 0 ≤ p → p < n → (cbC co (i : Int) (g p) ↔ (pl : Int) ≤ p) := fun p p0 p1 => by
    constructor
    · intro c
      apply Classical.byContradiction
      intro q
      rcases ip.2 with z | z
      · omega
      · apply z
        by_cases e : p = (pl : Int) - 1
        · rw [← e]
          exact c
        · have b1 := B p p0 p1
          have b2 := B ((pl : Int) - 1) (by omega) (by omega)
          exact cb_tr c ((rk_iff b1.1 b1.2.1 b1.2.2.1 b2.1 b2.2.1 b2.2.2.1).mpr (by rw [b1.2.2.2, b2.2.2.2]; omega))
    · intro q
      exact ip.1 p q p1
  have cj : ∀ k : Int, 0 ≤ k → k < i → co 3 k = 0 → (cbC co (i : Int) k ↔ (pl : Int) ≤ rkI co i k) := fun k k0 k1 ok => by
    have a := A k k0 k1 ok
    have c := ch _ a.1 a.2.1
    rw [a.2.2] at c
    exact c
  have ri : rkI co i (i : Int) = pl := by
    by_cases q : pl < n
    · have b := B (pl : Int) (by omega) (by omega)
      refine Eq.trans ?_ b.2.2.2
      unfold rkI
      refine (sumZ_c (fun j j0 j1 => ?_)).symm
      by_cases oj : co 3 j = 0
      · have a := cj j j0 j1 oj
        have r := rk_iff j0 j1 oj b.1 b.2.1 b.2.2.1
        rw [b.2.2.2] at r
        by_cases c : cbC co j (g (pl : Int))
        · rw [bz_t ⟨oj, c⟩]
          exact (bz_t (φ := co 3 j = 0 ∧ cbC co j (i : Int)) ⟨oj, cb_to (by omega) (fun z => by
            have := a.mp z
            have := r.mp c
            omega)⟩).symm
        · rw [bz_f (fun z => c z.2)]
          refine (bz_f (φ := co 3 j = 0 ∧ cbC co j (i : Int)) (fun z => c (r.mpr ?_))).symm
          apply Classical.byContradiction
          intro w
          exact cb_ir (cb_tr z.2 (a.mpr (by omega)))
      · rw [bz_f (fun z => oj z.1), bz_f (fun z => oj z.1)]
    · have e : (pl : Int) = n := by omega
      rw [e, C]
      unfold rkI
      refine sumZ_c (fun j j0 j1 => ?_)
      by_cases oj : co 3 j = 0
      · rw [bz_t oj]
        have a := A j j0 j1 oj
        exact bz_t ⟨oj, cb_to (by omega) (fun z => by
          have := (cj j j0 j1 oj).mp z
          omega)⟩
      · rw [bz_f oj, bz_f (fun z => oj z.1)]
  have rI : rkI co (i + 1) (i : Int) = pl := by
    rw [rkI_s, ri, bz_f (fun z => cb_ir z.2)]
    omega
  have rk : ∀ k : Int, 0 ≤ k → k < i → co 3 k = 0 → rkI co (i + 1) k = rkI co i k + (if (pl : Int) ≤ rkI co i k then 1 else 0) := fun k k0 k1 ok => by
    rw [rkI_s]
    have a := cj k k0 k1 ok
    by_cases c : (pl : Int) ≤ rkI co i k
    · rw [if_pos c, bz_t ⟨o, a.mpr c⟩]
    · rw [if_neg c, bz_f (fun z => c (a.mp z.2))]
  refine ⟨?_, ?_, ?_⟩
  · intro k k0 k1 ok
    by_cases q : k = i
    · rw [q, rI, G, if_pos rfl]
      exact ⟨by omega, by omega, rfl⟩
    · have a := A k k0 (by omega) ok
      rw [rk k k0 (by omega) ok, G]
      by_cases c : (pl : Int) ≤ rkI co i k
      · rw [if_pos c, if_neg (by omega), if_pos (by omega), show rkI co i k + 1 - 1 = rkI co i k by omega]
        exact ⟨by omega, by omega, a.2.2⟩
      · rw [if_neg c, if_neg (by omega), if_neg (by omega), show rkI co i k + 0 = rkI co i k by omega]
        exact ⟨by omega, by omega, a.2.2⟩
  · intro p p0 p1
    rw [G]
    by_cases q : p = (pl : Int)
    · rw [if_pos q, rI]
      exact ⟨by omega, by omega, o, q.symm⟩
    · rw [if_neg q]
      by_cases c : (pl : Int) < p ∧ p ≤ n
      · rw [if_pos c]
        have b := B (p - 1) (by omega) (by omega)
        rw [rk _ b.1 b.2.1 b.2.2.1, b.2.2.2, if_pos (by omega)]
        exact ⟨b.1, by omega, b.2.2.1, by omega⟩
      · rw [if_neg c]
        have b := B p (by omega) (by omega)
        rw [rk _ b.1 b.2.1 b.2.2.1, b.2.2.2, if_neg (by omega)]
        exact ⟨b.1, by omega, b.2.2.1, by omega⟩
  · rw [sumZ_s, bz_t o, ← C]
    omega
theorem dk_all (co : Nat → Int → Int) (g0 : Int → Int) : ∀ i : Nat, DkI co (dkG co g0 i) (dkM co i) i
  | 0 => ⟨fun k a b => by omega, fun p a b => by
      have e : dkM co 0 = 0 := rfl
      rw [e] at b
      omega, rfl⟩
  | i + 1 => by
    have I := dk_all co g0 i
    rw [dkG_s, dkM_s]
    by_cases o : co 3 (i : Int) = 0
    · rw [if_pos o, if_pos o]
      exact dk_step I o
    · rw [if_neg o, if_neg o]
      obtain ⟨A, B, C⟩ := I
      have rk : ∀ k, rkI co (i + 1) k = rkI co i k := fun k => by
        rw [rkI_s, bz_f (fun z => o z.1)]
        omega
      refine ⟨fun k k0 k1 ok => ?_, fun p p0 p1 => ?_, ?_⟩
      · have : k ≠ i := fun z => o (by rw [← z]; exact ok)
        rw [rk]
        exact A k k0 (by omega) ok
      · have b := B p p0 p1
        rw [rk]
        exact ⟨b.1, by omega, b.2.2.1, b.2.2.2⟩
      · rw [sumZ_s, bz_f o, ← C]
        omega
theorem da_inv (co : Nat → Int → Int) (hO : OkC co) : ∀ g : Int → Int, ∀ k : Int, 0 ≤ k → k < co 0 0 → co 3 k = 0 → sumZ (fun j => bz (co 3 j = 0 ∧ cbC co j k)) (co 0 0).toNat < (dkM co (co 0 0).toNat : Int) ∧ dkG co g (co 0 0).toNat (sumZ (fun j => bz (co 3 j = 0 ∧ cbC co j k)) (co 0 0).toNat) = k := by
  intro g k k0 k1 ok
  have hb0 := hO.b0
  exact ((dk_all co g (co 0 0).toNat).1 k k0 (by omega) ok).2
/-- the case at a place of the docket -/
theorem dp_in {co : Nat → Int → Int} (hO : OkC co) (g : Int → Int) {q : Int} (q0 : 0 ≤ q) (q1 : q < (dkM co (co 0 0).toNat : Int)) : dpC co q = dkG co g (co 0 0).toNat q := by
  have D := dk_all co g (co 0 0).toNat
  have b := D.2.1 q q0 q1
  unfold dpC
  refine firstZ_hit b.1 b.2.1 ⟨b.2.2.1, b.2.2.2⟩ (fun j j0 j1 z => ?_)
  have z2 : rkI co (co 0 0).toNat j = q := z.2
  have a := (D.1 j j0 (by omega) z.1).2.2
  rw [z2] at a
  omega
theorem dp_out {co : Nat → Int → Int} (hO : OkC co) {q : Int} (h : ¬ (0 ≤ q ∧ q < (dkM co (co 0 0).toNat : Int))) : dpC co q = -1 := by
  unfold dpC
  refine firstZ_none (fun j j0 j1 z => h ?_)
  have z2 : rkI co (co 0 0).toNat j = q := z.2
  have a := (dk_all co (fun _ => 0) (co 0 0).toNat).1 j j0 j1 z.1
  rw [z2] at a
  exact ⟨a.1, a.2.1⟩
theorem nd_all (co : Nat → Int → Int) : ∀ n : Nat, (ndF co n = -1 ∧ ∀ j : Int, 0 ≤ j → j < n → ¬ (co 3 j = 0 ∧ 0 < co 6 j)) ∨ (0 ≤ ndF co n ∧ ndF co n < n ∧ co 3 (ndF co n) = 0 ∧ 0 < co 6 (ndF co n) ∧ ∀ j : Int, 0 ≤ j → j < n → co 3 j = 0 → 0 < co 6 j → rkD co (ndF co n) ≤ rkD co j)
  | 0 => Or.inl ⟨rfl, fun j a b => by omega⟩
  | n + 1 => by
    have I := nd_all co n
    rw [ndF_s]
    by_cases c : co 3 (n : Int) = 0 ∧ 0 < co 6 (n : Int) ∧ (ndF co n < 0 ∨ rkD co (n : Int) < rkD co (ndF co n))
    · rw [if_pos c]
      refine Or.inr ⟨by omega, by omega, c.1, c.2.1, fun j j0 j1 oj hj => ?_⟩
      by_cases q : j = n
      · rw [q]
        exact Int.le_refl _
      · rcases I with ⟨_, z⟩ | ⟨z0, _, _, _, z⟩
        · exact absurd ⟨oj, hj⟩ (z j j0 (by omega))
        · have := z j j0 (by omega) oj hj
          omega
    · rw [if_neg c]
      rcases I with ⟨z0, z⟩ | ⟨z0, z1, z2, z3, z⟩
      · refine Or.inl ⟨z0, fun j j0 j1 x => ?_⟩
        by_cases q : j = n
        · rw [q] at x
          exact c ⟨x.1, x.2, Or.inl (by omega)⟩
        · exact z j j0 (by omega) x
      · refine Or.inr ⟨z0, by omega, z2, z3, fun j j0 j1 oj hj => ?_⟩
        by_cases q : j = n
        · rw [q] at oj hj ⊢
          apply Classical.byContradiction
          intro w
          exact c ⟨oj, hj, Or.inr (by omega)⟩
        · exact z j j0 (by omega) oj hj
theorem fh_nd {co : Nat → Int → Int} (hO : OkC co) (g : Int → Int) : fhC co (dkG co g (co 0 0).toNat) (dkM co (co 0 0).toNat) = ndF co (co 0 0).toNat := by
  have D := dk_all co g (co 0 0).toNat
  unfold fhC
  rcases firstZ_cases (fun p => 0 < co 6 (dkG co g (co 0 0).toNat p)) (dkM co (co 0 0).toNat) with ⟨e, z⟩ | ⟨p, p0, p1, p2, p3, e⟩
  · rw [e, if_pos (by decide)]
    rcases nd_all co (co 0 0).toNat with ⟨h, _⟩ | ⟨a0, a1, a2, a3, _⟩
    · exact h.symm
    · have a := D.1 _ a0 a1 a2
      exact absurd (by rw [a.2.2]; exact a3) (z _ a.1 a.2.1)
  · rw [e, if_neg (by omega)]
    have b := D.2.1 p p0 p1
    rcases nd_all co (co 0 0).toNat with ⟨_, h⟩ | ⟨a0, a1, a2, a3, h⟩
    · exact absurd ⟨b.2.2.1, p2⟩ (h _ b.1 b.2.1)
    · have a := D.1 _ a0 a1 a2
      have l := h _ b.1 b.2.1 b.2.2.1 p2
      have e1 : rkD co (dkG co g (co 0 0).toNat p) = p := b.2.2.2
      rw [e1] at l
      have e2 : rkD co (ndF co (co 0 0).toNat) = rkI co (co 0 0).toNat (ndF co (co 0 0).toNat) := rfl
      have e3 : rkI co (co 0 0).toNat (ndF co (co 0 0).toNat) = p := by
        apply Classical.byContradiction
        intro w
        exact p3 _ a.1 (by omega) (by rw [a.2.2]; exact a3)
      rw [e3] at a
      exact a.2.2
/-- the margin by levels -/
theorem ma_inv {co : Nat → Int → Int} (hO : OkC co) (k : Int) : mgC co k = mlC co k := by
  unfold mgC mlC sgC
  have e : sumZ (fun j => sdC co k j * wtC co k j) (co 6 k).toNat = sumZ (fun lv => sumZ (fun j => lv * (if co 11 (co 7 (k * 6 + j)) = lv then sdC co k j * co 9 (k * 8 + co 7 (k * 6 + j)) else 0)) (co 6 k).toNat) 10 := by
    rw [sumZ_swap]
    refine sumZ_c (fun j j0 j1 => ?_)
    have b := hO.b11 (co 7 (k * 6 + j))
    rw [sumZ_1 (a := co 11 (co 7 (k * 6 + j))) b.1 (by omega) (fun i i0 i1 ne => by rw [if_neg (fun z => ne z.symm), Int.mul_zero])]
    rw [if_pos rfl]
    unfold wtC
    rw [Int.mul_comm (co 9 (k * 8 + co 7 (k * 6 + j))) (co 11 (co 7 (k * 6 + j))), ← Int.mul_assoc, Int.mul_comm (sdC co k j), Int.mul_assoc]
  rw [e]
  have m : ∀ (a : Int) (f : Int → Int) (n : Nat), sumZ (fun j => a * f j) n = a * sumZ f n := by
    intro a f n
    induction n with
    | zero => exact (Int.mul_zero a).symm
    | succ n ih => rw [sumZ_s, sumZ_s, ih, Int.mul_add]
  congr 1
  exact sumZ_c (fun lv _ _ => m lv _ _)

