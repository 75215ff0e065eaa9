/-! the reference's row of numbers against the class's court -/
def CaR (co : Nat → Int → Int) (g : Int → Int) (k : Int) : Prop := g (12 + 30 * k + 0) = co 1 k ∧ g (12 + 30 * k + 1) = co 2 k ∧ g (12 + 30 * k + 2) = co 3 k ∧ g (12 + 30 * k + 3) = co 4 k ∧ g (12 + 30 * k + 4) = co 5 k ∧ g (12 + 30 * k + 5) = co 6 k
def TeR (co : Nat → Int → Int) (g : Int → Int) (k j : Int) : Prop := g (12 + 30 * k + 6 + 4 * j + 0) = co 7 (k * 6 + j) ∧ g (12 + 30 * k + 6 + 4 * j + 1) = (sdC co k j + 1) / 2 ∧ g (12 + 30 * k + 6 + 4 * j + 2) = co 9 (k * 8 + co 7 (k * 6 + j)) ∧ g (12 + 30 * k + 6 + 4 * j + 3) = co 10 (k * 8 + co 7 (k * 6 + j))
def RelC (co : Nat → Int → Int) (g : Int → Int) : Prop := (g 0 = co 0 0 ∧ g 1 = co 0 1 ∧ g 2 = co 0 2 ∧ g 3 = co 0 3) ∧ (∀ w, 0 ≤ w → w < co 0 1 → g (4 + w) = co 11 w) ∧ ∀ k, 0 ≤ k → k < co 0 0 → CaR co g k ∧ ∀ j, 0 ≤ j → j < co 6 k → TeR co g k j
theorem RelC.s0 {co : Nat → Int → Int} {g : Int → Int} (h : RelC co g) : g 0 = co 0 0 := h.1.1
theorem RelC.s1 {co : Nat → Int → Int} {g : Int → Int} (h : RelC co g) : g 1 = co 0 1 := h.1.2.1
theorem RelC.s2 {co : Nat → Int → Int} {g : Int → Int} (h : RelC co g) : g 2 = co 0 2 := h.1.2.2.1
theorem RelC.s3 {co : Nat → Int → Int} {g : Int → Int} (h : RelC co g) : g 3 = co 0 3 := h.1.2.2.2
theorem RelC.w {co : Nat → Int → Int} {g : Int → Int} (h : RelC co g) {w : Int} (h0 : 0 ≤ w) (h1 : w < co 0 1) : g (4 + w) = co 11 w := h.2.1 w h0 h1
theorem RelC.c {co : Nat → Int → Int} {g : Int → Int} (h : RelC co g) {k : Int} (h0 : 0 ≤ k) (h1 : k < co 0 0) : CaR co g k := (h.2.2 k h0 h1).1
theorem RelC.t {co : Nat → Int → Int} {g : Int → Int} (h : RelC co g) {k j : Int} (h0 : 0 ≤ k) (h1 : k < co 0 0) (j0 : 0 ≤ j) (j1 : j < co 6 k) : TeR co g k j := (h.2.2 k h0 h1).2 j j0 j1
/-- only the first 492 places matter -/
theorem RelC.of_eq {co : Nat → Int → Int} {g g' : Int → Int} (hO : OkC co) (h : RelC co g) (e : ∀ i : Int, 0 ≤ i → i < 492 → g' i = g i) : RelC co g' := by
  have hb := hO.b0
  have hw := hO.bw
  refine ⟨⟨by rw [e 0 (by omega) (by omega)]; exact h.s0, by rw [e 1 (by omega) (by omega)]; exact h.s1, by rw [e 2 (by omega) (by omega)]; exact h.s2, by rw [e 3 (by omega) (by omega)]; exact h.s3⟩, fun w h0 h1 => by rw [e _ (by omega) (by omega)]; exact h.w h0 h1, fun k h0 h1 => ?_⟩
  have hc := h.c h0 h1
  have h6 := hO.b6 k
  refine ⟨?_, fun j j0 j1 => ?_⟩
  · unfold CaR at hc ⊢
    rw [e _ (by omega) (by omega), e _ (by omega) (by omega), e _ (by omega) (by omega), e _ (by omega) (by omega), e _ (by omega) (by omega), e _ (by omega) (by omega)]
    exact hc
  · have ht := h.t h0 h1 j0 j1
    unfold TeR at ht ⊢
    rw [e _ (by omega) (by omega), e _ (by omega) (by omega), e _ (by omega) (by omega), e _ (by omega) (by omega)]
    exact ht
/-- what every court of a run holds -/
abbrev hrd (co : Nat → Int → Int) (k w : Int) : Prop := 0 < co 9 (k * 8 + w)
/-- witnesses who stand together in every set that cases don't split -/
def Conn (co : Nat → Int → Int) (a b : Int) : Prop := ∀ S : Int → Prop, S a → (∀ k x y, 0 ≤ k → k < co 0 0 → 0 ≤ x → x < 8 → 0 ≤ y → y < 8 → hrd co k x → hrd co k y → S x → S y) → S b
def TsI (co : Nat → Int → Int) : Prop := (∀ k j, 0 ≤ k → k < co 0 0 → 0 ≤ j → j < co 6 k → co 7 (k * 6 + j) < co 0 1 ∧ 0 < co 9 (k * 8 + co 7 (k * 6 + j)) ∧ (co 8 (k * 8 + co 7 (k * 6 + j)) = 1 ∨ co 8 (k * 8 + co 7 (k * 6 + j)) = -1)) ∧
  (∀ k i j, 0 ≤ k → k < co 0 0 → 0 ≤ i → i < j → j < co 6 k → co 7 (k * 6 + i) ≠ co 7 (k * 6 + j)) ∧
  (∀ k w, 0 ≤ k → k < 16 → 0 ≤ w → w < 8 → hrd co k w → k < co 0 0 ∧ ∃ j, 0 ≤ j ∧ j < co 6 k ∧ co 7 (k * 6 + j) = w) ∧
  (∀ k w, 0 ≤ k → k < 16 → 0 ≤ w → w < 8 → ¬ hrd co k w → co 8 (k * 8 + w) = 0 ∧ co 10 (k * 8 + w) = 0)
def StI (co : Nat → Int → Int) : Prop := (∀ k, co 0 0 ≤ k → k < 16 → co 4 k = 0 ∧ co 5 k = 0 ∧ co 6 k = 0) ∧ (∀ k, 0 ≤ k → k < co 0 0 → (co 3 k = 0 → co 4 k = 0) ∧ (co 3 k = 1 → co 5 k < 2))
def snC (co : Nat → Int → Int) (d : Int) : Int := sumZ (fun j => if co 1 j = d ∧ ¬ co 4 j = 0 then co 2 j + 1 else 0) (co 0 0).toNat
def SnI (co : Nat → Int → Int) : Prop := ∀ d, 0 ≤ d → d < 6 → co 12 d = snC co d
/-- the groups: every witness's parent is one, the chain of parents ends, witnesses of one root are connected and others aren't -/
def GrI (co : Nat → Int → Int) : Prop := (∀ w, 0 ≤ w → w < co 0 1 → co 13 w < co 0 1 ∧ co 13 (rtF (co 13) 8 w) = rtF (co 13) 8 w) ∧ ∀ w y, 0 ≤ w → w < co 0 1 → 0 ≤ y → y < co 0 1 → (rtF (co 13) 8 w = rtF (co 13) 8 y ↔ Conn co w y)
def InvC (co : Nat → Int → Int) : Prop := OkC co ∧ TsI co ∧ StI co ∧ SnI co ∧ GrI co
theorem InvC.ok {co : Nat → Int → Int} (h : InvC co) : OkC co := h.1
theorem InvC.ts {co : Nat → Int → Int} (h : InvC co) : TsI co := h.2.1
theorem InvC.st {co : Nat → Int → Int} (h : InvC co) : StI co := h.2.2.1
theorem InvC.sn {co : Nat → Int → Int} (h : InvC co) : SnI co := h.2.2.2.1
theorem InvC.gr {co : Nat → Int → Int} (h : InvC co) : GrI co := h.2.2.2.2
theorem TsI.a {co : Nat → Int → Int} (h : TsI co) {k j : Int} (h0 : 0 ≤ k) (h1 : k < co 0 0) (j0 : 0 ≤ j) (j1 : j < co 6 k) : co 7 (k * 6 + j) < co 0 1 ∧ 0 < co 9 (k * 8 + co 7 (k * 6 + j)) ∧ (co 8 (k * 8 + co 7 (k * 6 + j)) = 1 ∨ co 8 (k * 8 + co 7 (k * 6 + j)) = -1) := h.1 k j h0 h1 j0 j1
theorem TsI.sd {co : Nat → Int → Int} (h : TsI co) {k j : Int} (h0 : 0 ≤ k) (h1 : k < co 0 0) (j0 : 0 ≤ j) (j1 : j < co 6 k) : sdC co k j = 1 ∨ sdC co k j = -1 := (h.a h0 h1 j0 j1).2.2
/-- where the testimony of a witness stands -/
def swC (co : Nat → Int → Int) (k w : Int) : Int := firstZ (fun j => co 7 (k * 6 + j) = w) (co 6 k).toNat
theorem swC_b {co : Nat → Int → Int} (hO : OkC co) (k w : Int) : -1 ≤ swC co k w ∧ swC co k w < 6 ∧ (swC co k w < co 6 k) := by
  have h := firstZ_b (fun j => co 7 (k * 6 + j) = w) (co 6 k).toNat
  have h6 := hO.b6 k
  have e : swC co k w = firstZ (fun j => co 7 (k * 6 + j) = w) (co 6 k).toNat := rfl
  omega
theorem swC_at {co : Nat → Int → Int} {k w : Int} (h : 0 ≤ swC co k w) : co 7 (k * 6 + swC co k w) = w := by
  rcases firstZ_cases (fun j => co 7 (k * 6 + j) = w) (co 6 k).toNat with ⟨h1, -⟩ | ⟨j, h1, h2, h3, -, h5⟩
  · have e : swC co k w = -1 := h1
    omega
  · have e : swC co k w = j := h5
    rw [e]
    exact h3
theorem swC_iff {co : Nat → Int → Int} (hO : OkC co) (h : TsI co) {k w : Int} (h0 : 0 ≤ k) (h1 : k < co 0 0) (w0 : 0 ≤ w) (w1 : w < 8) : 0 ≤ swC co k w ↔ 0 < co 9 (k * 8 + w) := by
  have hb := hO.b0
  constructor
  · intro q
    have e := swC_at q
    have b := swC_b hO k w
    have a := (h.a h0 h1 q b.2.2).2.1
    rw [e] at a
    exact a
  · intro q
    obtain ⟨-, j, j0, j1, j2⟩ := h.2.2.1 k w h0 (by omega) w0 w1 q
    rcases firstZ_cases (fun j => co 7 (k * 6 + j) = w) (co 6 k).toNat with ⟨-, g⟩ | ⟨i, g1, -, -, -, g5⟩
    · exact absurd j2 (g j j0 (by omega))
    · have e : swC co k w = i := g5
      omega
theorem sumZ_add {f g h : Int → Int} : ∀ {n : Nat}, (∀ i : Int, 0 ≤ i → i < n → h i = f i + g i) → sumZ h n = sumZ f n + sumZ g n
  | 0, _ => rfl
  | n + 1, q => by
    rw [sumZ_s, sumZ_s, sumZ_s, sumZ_add (n := n) (fun i a b => q i a (by omega)), q n (by omega) (by omega)]
    omega
def wsC (co : Nat → Int → Int) (k sd : Int) : Int := sumZ (fun j => if sdC co k j = sd then wtC co k j else 0) (co 6 k).toNat
theorem wsC_b {co : Nat → Int → Int} (hO : OkC co) (k sd : Int) : 0 ≤ wsC co k sd ∧ wsC co k sd ≤ 270 := by
  have h6 := hO.b6 k
  have h := sumZ_b (f := fun j => if sdC co k j = sd then wtC co k j else 0) (lo := 0) (hi := 45) (n := (co 6 k).toNat) (fun j _ _ => by
    have := wtC_b hO k j
    split <;> omega)
  have e : wsC co k sd = sumZ (fun j => if sdC co k j = sd then wtC co k j else 0) (co 6 k).toNat := rfl
  omega
theorem sumZ_neg {f g : Int → Int} : ∀ {n : Nat}, (∀ i : Int, 0 ≤ i → i < n → f i = - g i) → sumZ f n = - sumZ g n
  | 0, _ => rfl
  | n + 1, q => by
    rw [sumZ_s, sumZ_s, sumZ_neg (n := n) (fun i a b => q i a (by omega)), q n (by omega) (by omega)]
    omega
theorem mgC_split {co : Nat → Int → Int} (hO : OkC co) (h : TsI co) {k : Int} (h0 : 0 ≤ k) (h1 : k < co 0 0) : wsC co k 1 - wsC co k (-1) - 2 * (co 2 k + 1) = mgC co k := by
  have h6 := hO.b6 k
  have e := sumZ_add (f := fun j => if sdC co k j = 1 then wtC co k j else 0) (g := fun j => - (if sdC co k j = -1 then wtC co k j else 0)) (h := fun j => sdC co k j * wtC co k j) (n := (co 6 k).toNat) (fun j j0 j1 => by
    rcases h.sd h0 h1 j0 (show j < co 6 k by omega) with q | q
    · skip
      rw [q, if_pos rfl, if_neg (by omega)]
      omega
    · skip
      rw [q, if_neg (by omega), if_pos rfl]
      omega)
  have e2 := sumZ_neg (f := fun j => - (if sdC co k j = -1 then wtC co k j else 0)) (g := fun j => if sdC co k j = -1 then wtC co k j else 0) (n := (co 6 k).toNat) (fun _ _ _ => rfl)
  unfold mgC wsC
  omega

