/-! sums, first places -/
def sumZ (f : Int → Int) : Nat → Int
  | 0 => 0
  | n + 1 => sumZ f n + f (n : Int)
theorem sumZ_0 (f : Int → Int) : sumZ f 0 = 0 := rfl
theorem sumZ_s (f : Int → Int) (n : Nat) : sumZ f (n + 1) = sumZ f n + f (n : Int) := rfl
theorem sumZ_b {f : Int → Int} {lo hi : Int} : ∀ {n : Nat}, (∀ i : Int, 0 ≤ i → i < n → lo ≤ f i ∧ f i ≤ hi) → lo * n ≤ sumZ f n ∧ sumZ f n ≤ hi * n
  | 0, _ => by simp [sumZ]
  | n + 1, h => by
    have h1 := sumZ_b (n := n) (fun i h0 h1 => h i h0 (by omega))
    have h2 := h n (by omega) (by omega)
    rw [sumZ_s]
    have e1 : lo * ((n + 1 : Nat) : Int) = lo * n + lo := by rw [Int.natCast_add, Int.mul_add]; simp
    have e2 : hi * ((n + 1 : Nat) : Int) = hi * n + hi := by rw [Int.natCast_add, Int.mul_add]; simp
    omega
theorem sumZ_c {f g : Int → Int} : ∀ {n : Nat}, (∀ i : Int, 0 ≤ i → i < n → f i = g i) → sumZ f n = sumZ g n
  | 0, _ => rfl
  | n + 1, h => by rw [sumZ_s, sumZ_s, sumZ_c (fun i h0 h1 => h i h0 (by omega)), h n (by omega) (by omega)]
/-- a count is at most the number of places -/
theorem cnt_b (p : Int → Prop) [DecidablePred p] (n : Nat) : 0 ≤ sumZ (fun i => bz (p i)) n ∧ sumZ (fun i => bz (p i)) n ≤ n := by
  have h := sumZ_b (f := fun i => bz (p i)) (lo := 0) (hi := 1) (n := n) (fun i _ _ => bz_rg)
  omega
/-- the first place, -1 without one -/
def firstF (p : Int → Prop) [DecidablePred p] : Nat → Int → Int
  | 0, _ => -1
  | n + 1, i => if p i then i else firstF p n (i + 1)
def firstZ (p : Int → Prop) [DecidablePred p] (n : Nat) : Int := firstF p n 0
theorem firstF_hit {p : Int → Prop} [DecidablePred p] : ∀ {n : Nat} {i k : Int}, i ≤ k → k < i + n → p k → (∀ j, i ≤ j → j < k → ¬ p j) → firstF p n i = k
  | 0, i, k, h1, h2, _, _ => by omega
  | n + 1, i, k, h1, h2, hk, hj => by
    unfold firstF
    by_cases e : i = k
    · rw [if_pos (by rw [e]; exact hk), e]
    · rw [if_neg (hj i (Int.le_refl i) (by omega))]
      exact firstF_hit (by omega) (by omega) hk (fun j a b => hj j (by omega) b)
theorem firstF_none {p : Int → Prop} [DecidablePred p] : ∀ {n : Nat} {i : Int}, (∀ j, i ≤ j → j < i + n → ¬ p j) → firstF p n i = -1
  | 0, _, _ => rfl
  | n + 1, i, h => by
    unfold firstF
    rw [if_neg (h i (Int.le_refl i) (by omega))]
    exact firstF_none (fun j a b => h j (by omega) (by omega))
theorem firstZ_hit {p : Int → Prop} [DecidablePred p] {n : Nat} {k : Int} (h0 : 0 ≤ k) (h1 : k < n) (hk : p k) (hj : ∀ j, 0 ≤ j → j < k → ¬ p j) : firstZ p n = k := firstF_hit h0 (by omega) hk hj
theorem firstZ_none {p : Int → Prop} [DecidablePred p] {n : Nat} (h : ∀ j : Int, 0 ≤ j → j < n → ¬ p j) : firstZ p n = -1 := firstF_none (fun j a b => h j a (by omega))
theorem firstF_cases {p : Int → Prop} [DecidablePred p] : ∀ (n : Nat) (i : Int), (firstF p n i = -1 ∧ ∀ j, i ≤ j → j < i + n → ¬ p j) ∨ ∃ k, i ≤ k ∧ k < i + n ∧ p k ∧ (∀ j, i ≤ j → j < k → ¬ p j) ∧ firstF p n i = k
  | 0, i => Or.inl ⟨rfl, fun j a b => by omega⟩
  | n + 1, i => by
    by_cases h : p i
    · exact Or.inr ⟨i, Int.le_refl i, by omega, h, fun j a b => by omega, by unfold firstF; rw [if_pos h]⟩
    · have e : firstF p (n + 1) i = firstF p n (i + 1) := by
        show (if p i then i else firstF p n (i + 1)) = _
        rw [if_neg h]
      rcases firstF_cases (p := p) n (i + 1) with ⟨h1, h2⟩ | ⟨k, h1, h2, h3, h4, h5⟩
      · refine Or.inl ⟨by rw [e, h1], fun j a b => ?_⟩
        by_cases q : j = i
        · rw [q]; exact h
        · exact h2 j (by omega) (by omega)
      · refine Or.inr ⟨k, by omega, by omega, h3, fun j a b => ?_, by rw [e, h5]⟩
        by_cases q : j = i
        · rw [q]; exact h
        · exact h4 j (by omega) b
theorem firstZ_cases (p : Int → Prop) [DecidablePred p] (n : Nat) : (firstZ p n = -1 ∧ ∀ j, 0 ≤ j → j < (n : Int) → ¬ p j) ∨ ∃ k, 0 ≤ k ∧ k < (n : Int) ∧ p k ∧ (∀ j, 0 ≤ j → j < k → ¬ p j) ∧ firstZ p n = k := by
  rcases firstF_cases (p := p) n 0 with ⟨h1, h2⟩ | ⟨k, h1, h2, h3, h4, h5⟩
  · exact Or.inl ⟨h1, fun j a b => h2 j a (by omega)⟩
  · exact Or.inr ⟨k, h1, by omega, h3, h4, h5⟩
theorem firstZ_b (p : Int → Prop) [DecidablePred p] (n : Nat) : -1 ≤ firstZ p n ∧ (firstZ p n < n ∨ firstZ p n = -1) := by
  rcases firstZ_cases p n with ⟨h1, -⟩ | ⟨k, h1, h2, -, -, h5⟩ <;> omega
theorem firstZ_c {p q : Int → Prop} [DecidablePred p] [DecidablePred q] {n : Nat} (h : ∀ i : Int, 0 ≤ i → i < n → (p i ↔ q i)) : firstZ p n = firstZ q n := by
  rcases firstZ_cases p n with ⟨h1, h2⟩ | ⟨k, h1, h2, h3, h4, h5⟩
  · rw [h1, firstZ_none (fun j a b => fun z => h2 j a b ((h j a b).mpr z))]
  · rw [h5, firstZ_hit h1 h2 ((h k h1 h2).mp h3) (fun j a b => fun z => h4 j a b ((h j a (by omega)).mpr z))]
/-! what the class's court holds, row by row: 0 the four numbers, 1 defendants, 2 offences, 3 phases, 4 guilts, 5 appeals, 6 testimonies, 7 hearing order, 8 sides, 9 strengths, 10 questions, 11 credibilities, 12 sentences, 13 parents -/
def loC (r : Nat) : Int := if r = 8 then -1 else 0
def hiC (r : Nat) : Int := match r with
  | 1 => 5
  | 2 => 4
  | 3 => 2
  | 4 => 1
  | 5 => 2
  | 6 => 6
  | 7 => 7
  | 8 => 1
  | 9 => 5
  | 10 => 2
  | 11 => 9
  | 12 => 100
  | _ => 7
def OkC (co : Nat → Int → Int) : Prop := (0 ≤ co 0 0 ∧ co 0 0 ≤ 16) ∧ (0 ≤ co 0 1 ∧ co 0 1 ≤ 8) ∧ ∀ r, 1 ≤ r → r ≤ 13 → ∀ i, loC r ≤ co r i ∧ co r i ≤ hiC r
theorem OkC.b0 {co : Nat → Int → Int} (h : OkC co) : 0 ≤ co 0 0 ∧ co 0 0 ≤ 16 := h.1
theorem OkC.bw {co : Nat → Int → Int} (h : OkC co) : 0 ≤ co 0 1 ∧ co 0 1 ≤ 8 := h.2.1
theorem OkC.b1 {co : Nat → Int → Int} (h : OkC co) (i : Int) : 0 ≤ co 1 i ∧ co 1 i ≤ 5 := h.2.2 1 (by decide) (by decide) i
theorem OkC.b2 {co : Nat → Int → Int} (h : OkC co) (i : Int) : 0 ≤ co 2 i ∧ co 2 i ≤ 4 := h.2.2 2 (by decide) (by decide) i
theorem OkC.b3 {co : Nat → Int → Int} (h : OkC co) (i : Int) : 0 ≤ co 3 i ∧ co 3 i ≤ 2 := h.2.2 3 (by decide) (by decide) i
theorem OkC.b4 {co : Nat → Int → Int} (h : OkC co) (i : Int) : 0 ≤ co 4 i ∧ co 4 i ≤ 1 := h.2.2 4 (by decide) (by decide) i
theorem OkC.b5 {co : Nat → Int → Int} (h : OkC co) (i : Int) : 0 ≤ co 5 i ∧ co 5 i ≤ 2 := h.2.2 5 (by decide) (by decide) i
theorem OkC.b6 {co : Nat → Int → Int} (h : OkC co) (i : Int) : 0 ≤ co 6 i ∧ co 6 i ≤ 6 := h.2.2 6 (by decide) (by decide) i
theorem OkC.b7 {co : Nat → Int → Int} (h : OkC co) (i : Int) : 0 ≤ co 7 i ∧ co 7 i ≤ 7 := h.2.2 7 (by decide) (by decide) i
theorem OkC.b8 {co : Nat → Int → Int} (h : OkC co) (i : Int) : -1 ≤ co 8 i ∧ co 8 i ≤ 1 := h.2.2 8 (by decide) (by decide) i
theorem OkC.b9 {co : Nat → Int → Int} (h : OkC co) (i : Int) : 0 ≤ co 9 i ∧ co 9 i ≤ 5 := h.2.2 9 (by decide) (by decide) i
theorem OkC.b10 {co : Nat → Int → Int} (h : OkC co) (i : Int) : 0 ≤ co 10 i ∧ co 10 i ≤ 2 := h.2.2 10 (by decide) (by decide) i
theorem OkC.b11 {co : Nat → Int → Int} (h : OkC co) (i : Int) : 0 ≤ co 11 i ∧ co 11 i ≤ 9 := h.2.2 11 (by decide) (by decide) i
theorem OkC.b12 {co : Nat → Int → Int} (h : OkC co) (i : Int) : 0 ≤ co 12 i ∧ co 12 i ≤ 100 := h.2.2 12 (by decide) (by decide) i
theorem OkC.b13 {co : Nat → Int → Int} (h : OkC co) (i : Int) : 0 ≤ co 13 i ∧ co 13 i ≤ 7 := h.2.2 13 (by decide) (by decide) i

