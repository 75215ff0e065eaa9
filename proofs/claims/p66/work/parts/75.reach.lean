/-! the class's search reaches those who are connected -/
def QI (co : Nat → Int → Int) (w : Int) (se : Nat → Int → Int) : Prop := 0 ≤ se 0 2 ∧ (∀ p, 0 ≤ p → p < se 0 2 → (0 ≤ se 1 p ∧ se 1 p < 8) ∧ ¬ se 2 (se 1 p) = 0) ∧ (∀ y, 0 ≤ y → y < 8 → ¬ se 2 y = 0 → (∃ p, 0 ≤ p ∧ p < se 0 2 ∧ se 1 p = y) ∧ Conn co w y)
def ExS (se se' : Nat → Int → Int) : Prop := se 0 2 ≤ se' 0 2 ∧ (∀ p, 0 ≤ p → p < se 0 2 → se' 1 p = se 1 p) ∧ ∀ y, ¬ se 2 y = 0 → ¬ se' 2 y = 0
theorem ExS.refl (se : Nat → Int → Int) : ExS se se := ⟨Int.le_refl _, fun _ _ _ => rfl, fun _ h => h⟩
theorem ExS.trans {a b c : Nat → Int → Int} (h : ExS a b) (g : ExS b c) : ExS a c := ⟨Int.le_trans h.1 g.1, fun p p0 p1 => (g.2.1 p p0 (Int.lt_of_lt_of_le p1 h.1)).trans (h.2.1 p p0 p1), fun y q => g.2.2 y (h.2.2 y q)⟩
theorem reach_n {co : Nat → Int → Int} {w y : Int} {se se' : Nat → Int → Int} (h : QI co w se) (y0 : 0 ≤ y) (y1 : y < 8) (cn : Conn co w y) (c : se 2 y = 0) (e0 : se' 0 2 = se 0 2 + 1) (e1 : se' 1 = updZ (se 1) (se 0 2) y) (e2 : se' 2 = updZ (se 2) y 1) : QI co w se' ∧ ExS se se' ∧ ¬ se' 2 y = 0 := by
  obtain ⟨h0, h1, h2⟩ := h
  refine ⟨⟨by omega, ?_, ?_⟩, ⟨by omega, ?_, ?_⟩, ?_⟩
  · intro p p0 p1
    rw [e1, e2]
    by_cases q : p = se 0 2
    · rw [q, updZ_at, updZ_at]
      exact ⟨⟨y0, y1⟩, by decide⟩
    · rw [updZ_ne _ _ q]
      have g := h1 p p0 (by omega)
      refine ⟨g.1, ?_⟩
      rw [updZ_ne _ _ (fun z => g.2 (by rw [z]; exact c))]
      exact g.2
  · intro x x0 x1 hx
    rw [e2] at hx
    rw [e0, e1]
    by_cases q : x = y
    · rw [q]
      exact ⟨⟨se 0 2, h0, by omega, updZ_at _ _ _⟩, cn⟩
    · rw [updZ_ne _ _ q] at hx
      obtain ⟨⟨p, p0, p1, p2⟩, g⟩ := h2 x x0 x1 hx
      exact ⟨⟨p, p0, by omega, by rw [updZ_ne _ _ (by omega)]; exact p2⟩, g⟩
  · intro p p0 p1
    rw [e1, updZ_ne _ _ (by omega)]
  · intro x hx
    rw [e2]
    by_cases q : x = y
    · rw [q, updZ_at]
      decide
    · rw [updZ_ne _ _ q]
      exact hx
  · rw [e2, updZ_at]
    decide
theorem reach_q {co : Nat → Int → Int} {w y : Int} {se : Nat → Int → Int} (h : QI co w se) (y0 : 0 ≤ y) (y1 : y < 8) (cn : Conn co w y) : QI co w (reachC se y) ∧ ExS se (reachC se y) ∧ ¬ reachC se y 2 y = 0 := by
  unfold reachC
  by_cases c : se 2 y = 0
  · rw [if_pos c]
    exact reach_n h y0 y1 cn c (show updZ (se 0) 2 (se 0 2 + 1) 2 = se 0 2 + 1 from updZ_at _ _ _) rfl rfl
  · rw [if_neg c]
    exact ⟨h, ExS.refl se, c⟩
theorem ra_q {co : Nat → Int → Int} (hO : OkC co) {w k : Int} {se : Nat → Int → Int} (h : QI co w se) : ∀ n : Nat, (∀ p : Int, 0 ≤ p → p < n → Conn co w (co 7 (k * 6 + p))) → QI co w (raC co k se n) ∧ ExS se (raC co k se n) ∧ ∀ p : Int, 0 ≤ p → p < n → ¬ raC co k se n 2 (co 7 (k * 6 + p)) = 0
  | 0, _ => ⟨h, ExS.refl se, fun p a b => by omega⟩
  | n + 1, hc => by
    have i := ra_q hO h n (fun p a b => hc p a (by omega))
    have b7 := hO.b7 (k * 6 + (n : Int))
    have r := reach_q i.1 b7.1 (by omega) (hc n (by omega) (by omega))
    refine ⟨r.1, i.2.1.trans r.2.1, fun p a b => ?_⟩
    by_cases q : p = n
    · rw [q]
      exact r.2.2
    · exact r.2.1.2.2 _ (i.2.2 p a (by omega))
theorem sp_q {co : Nat → Int → Int} (hO : OkC co) (ts : TsI co) {w x : Int} (x0 : 0 ≤ x) (x1 : x < 8) (cx : Conn co w x) {se : Nat → Int → Int} (h : QI co w se) : ∀ n : Nat, (n : Int) ≤ co 0 0 → QI co w (spC co x se n) ∧ ExS se (spC co x se n) ∧ ∀ i : Int, 0 ≤ i → i < n → hrd co i x → ∀ p : Int, 0 ≤ p → p < co 6 i → ¬ spC co x se n 2 (co 7 (i * 6 + p)) = 0
  | 0, _ => ⟨h, ExS.refl se, fun i a b => by omega⟩
  | n + 1, hn => by
    have I := sp_q hO ts x0 x1 cx h n (by omega)
    have h6 := hO.b6 (n : Int)
    have ee : spC co x se (n + 1) = if 0 < co 9 ((n : Int) * 8 + x) then raC co (n : Int) (spC co x se n) (co 6 (n : Int)).toNat else spC co x se n := rfl
    rw [ee]
    by_cases c : 0 < co 9 ((n : Int) * 8 + x)
    · rw [if_pos c]
      have r := ra_q hO (k := (n : Int)) I.1 (co 6 (n : Int)).toNat (fun p p0 p1 => by
        have b7 := hO.b7 ((n : Int) * 6 + p)
        exact cx.trans (Conn.one (k := (n : Int)) (by omega) (by omega) x0 x1 b7.1 (by omega) c (ts.a (k := (n : Int)) (by omega) (by omega) p0 (by omega)).2.1))
      refine ⟨r.1, I.2.1.trans r.2.1, fun i a b hi p p0 p1 => ?_⟩
      by_cases q : i = n
      · rw [q] at p1 ⊢
        exact r.2.2 p p0 (by omega)
      · exact r.2.1.2.2 _ (I.2.2 i a (by omega) hi p p0 p1)
    · rw [if_neg c]
      refine ⟨I.1, I.2.1, fun i a b hi p p0 p1 => ?_⟩
      by_cases q : i = n
      · rw [q] at hi
        exact absurd hi c
      · exact I.2.2 i a (by omega) hi p p0 p1
theorem bf_q {co : Nat → Int → Int} (hO : OkC co) (ts : TsI co) {w : Int} {se : Nat → Int → Int} (h : QI co w se) : ∀ n : Nat, (∀ j : Nat, j < n → (j : Int) < bfC co se j 0 2) → QI co w (bfC co se n) ∧ ExS se (bfC co se n) ∧ ∀ j : Int, 0 ≤ j → j < n → j < bfC co se n 0 2 ∧ ∀ i : Int, 0 ≤ i → i < co 0 0 → hrd co i (bfC co se n 1 j) → ∀ p : Int, 0 ≤ p → p < co 6 i → ¬ bfC co se n 2 (co 7 (i * 6 + p)) = 0
  | 0, _ => ⟨h, ExS.refl se, fun i a b => by omega⟩
  | n + 1, hq => by
    have hb0 := hO.b0
    have I := bf_q hO ts h n (fun j a => hq j (by omega))
    have hn := hq n (by omega)
    have x := I.1.2.1 (n : Int) (by omega) hn
    have cx := (I.1.2.2 _ x.1.1 x.1.2 x.2).2
    have s := sp_q hO ts x.1.1 x.1.2 cx I.1 (co 0 0).toNat (by omega)
    refine ⟨s.1, I.2.1.trans s.2.1, fun j j0 j1 => ?_⟩
    have l := s.2.1.1
    show j < spC co (bfC co se n 1 (n : Int)) (bfC co se n) (co 0 0).toNat 0 2 ∧ ∀ i : Int, 0 ≤ i → i < co 0 0 → hrd co i (spC co (bfC co se n 1 (n : Int)) (bfC co se n) (co 0 0).toNat 1 j) → ∀ p : Int, 0 ≤ p → p < co 6 i → ¬ spC co (bfC co se n 1 (n : Int)) (bfC co se n) (co 0 0).toNat 2 (co 7 (i * 6 + p)) = 0
    by_cases q : j = n
    · rw [q]
      refine ⟨by omega, fun i i0 i1 hi p p0 p1 => ?_⟩
      rw [s.2.1.2.1 (n : Int) (by omega) hn] at hi
      exact s.2.2 i i0 (by omega) hi p p0 p1
    · have g := I.2.2 j j0 (by omega)
      refine ⟨by omega, fun i i0 i1 hi p p0 p1 => ?_⟩
      rw [s.2.1.2.1 j j0 g.1] at hi
      exact s.2.1.2.2 _ (g.2 i i0 i1 hi p p0 p1)
theorem ca_inv {co : Nat → Int → Int} (h : InvD co) : ∀ w : Int, 0 ≤ w → w < co 0 1 → ∀ y : Int, 0 ≤ y → y < co 0 1 → ∀ (se : Nat → Int → Int) (h : Nat), h ≤ 8 → (8 ≤ h ∨ stC co se w h 0 2 ≤ (h : Int)) → (∀ j : Nat, j < h → (j : Int) < stC co se w j 0 2) → (¬ stC co se w h 2 y = 0 ↔ rtF (co 13) 8 w = rtF (co 13) 8 y) := by
  intro w w0 w1 y y0 y1 se n n8 hn hq
  have hO := h.inv.ok
  have ts := h.inv.ts
  have hbw := hO.bw
  have hb0 := hO.b0
  rw [h.inv.gr.2 w y w0 w1 y0 y1]
  have q0 : QI co w (s0C se) := ⟨Int.le_refl _, fun p p0 p1 => by
    have p1 : p < (0 : Int) := p1
    omega, fun y _ _ z => absurd rfl z⟩
  have r := reach_q q0 w0 (by omega) (Conn.rfl' w)
  have b := bf_q hO ts r.1 n hq
  have sb := (stC_SI (w := w) hO se w0 (by omega) n).b
  have cl : stC co se w n 0 2 ≤ (n : Int) := by omega
  constructor
  · intro g
    exact (b.1.2.2 y y0 (by omega) g).2
  · intro c
    exact c (fun x => ¬ stC co se w n 2 x = 0) (b.2.1.2.2 w r.2.2) (fun k x z k0 k1 x0 x1 z0 z1 hx hz sx => by
      obtain ⟨⟨p, p0, p1, p2⟩, -⟩ := b.1.2.2 x x0 x1 sx
      have p1 : p < stC co se w n 0 2 := p1
      obtain ⟨-, j, j0, j1, j2⟩ := ts.2.2.1 k z k0 (by omega) z0 z1 hz
      have g := (b.2.2 p p0 (by omega)).2 k k0 k1 (by rw [p2]; exact hx) j j0 j1
      rw [j2] at g
      exact g)

