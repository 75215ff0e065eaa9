theorem hear_gr {co : Nat → Int → Int} (h : InvD co) {a b z s : Int} (a0 : 0 ≤ a) (a1 : a < co 0 0) (b0 : 0 ≤ b) (b1 : b < co 0 1) (hh : ¬ hrd co a b) (hz : 1 ≤ z) : GrI (hearS co a b z s) ∧ DpI (hearS co a b z s) := by
  have hO := h.inv.ok
  have hb0 := hO.b0
  have hbw := hO.bw
  have gr := h.inv.gr
  have dp := h.dp
  have hl := gr.lt hO
  have b6 := hO.b6 a
  obtain ⟨t1, t2, t3, t4⟩ := h.inv.ts
  obtain ⟨f, hf⟩ : ∃ f, f = updZ (co 7) (a * 6 + co 6 a) b (a * 6 + 0) := ⟨_, rfl⟩
  obtain ⟨r, hr⟩ : ∃ r, r = rtF (co 13) 8 b := ⟨_, rfl⟩
  obtain ⟨q, hq⟩ : ∃ q, q = rtF (co 13) 8 f := ⟨_, rfl⟩
  have fc : (co 6 a = 0 ∧ f = b) ∨ (0 < co 6 a ∧ f = co 7 (a * 6 + 0) ∧ hrd co a f ∧ 0 ≤ f ∧ f < co 0 1) := by
    by_cases e : co 6 a = 0
    · refine Or.inl ⟨e, ?_⟩
      rw [hf, e, updZ_at]
    · have e2 : f = co 7 (a * 6 + 0) := by
        rw [hf]
        exact updZ_ne _ _ (by omega)
      have g := t1 a 0 a0 a1 (Int.le_refl 0) (by omega)
      rw [← e2] at g
      have b7 := hO.b7 (a * 6 + 0)
      exact Or.inr ⟨by omega, e2, g.2.1, by omega, g.1⟩
  have f0 : 0 ≤ f ∧ f < co 0 1 := by
    rcases fc with ⟨_, e⟩ | ⟨_, _, _, e0, e1⟩
    · omega
    · omega
  have rr : co 13 r = r := by
    rw [hr]
    exact gr.root b0 b1
  have qr : co 13 q = q := by
    rw [hq]
    exact gr.root f0.1 f0.2
  have rl : 0 ≤ r ∧ r < co 0 1 := by
    rw [hr]
    exact rtF_lt hl 8 b b0 b1
  have ql : 0 ≤ q ∧ q < co 0 1 := by
    rw [hq]
    exact rtF_lt hl 8 f f0.1 f0.2
  have E0 : hearS co a b z s 0 0 = co 0 0 := rfl
  have E1 : hearS co a b z s 0 1 = co 0 1 := rfl
  have R9 : hearS co a b z s 9 = updZ (co 9) (a * 8 + b) z := rfl
  have R13 : hearS co a b z s 13 = updZ (co 13) r q := by
    show updZ (co 13) (rtF (co 13) 8 b) (rtF (co 13) 8 (updZ (co 7) (a * 6 + co 6 a) b (a * 6 + 0))) = _
    rw [← hf, ← hr, ← hq]
  have rb := rnC_b hO
  have rb1 := rnC_1 hO rl.1 rl.2 rr
  have st8 : ∀ w, 0 ≤ w → w < co 0 1 → rtF (co 13) 8 w = rtF (co 13) (co 0 1 - rnC co).toNat w := fun w w0 w1 => rtF_fix _ w (dp w w0 w1) 8 (by omega)
  have key : (∀ w, 0 ≤ w → w < co 0 1 → rtF (updZ (co 13) r q) 8 w = (if rtF (co 13) 8 w = r then q else rtF (co 13) 8 w) ∧ updZ (co 13) r q (if rtF (co 13) 8 w = r then q else rtF (co 13) 8 w) = (if rtF (co 13) 8 w = r then q else rtF (co 13) 8 w)) ∧ DpI (hearS co a b z s) := by
    by_cases e : r = q
    · have e13 : updZ (co 13) r q = co 13 := updZ_self (by rw [rr]; exact e)
      rw [e13]
      refine ⟨fun w w0 w1 => ?_, dp.of E1 (by rw [R13, e13])⟩
      have g := gr.root w0 w1
      by_cases c : rtF (co 13) 8 w = r
      · rw [if_pos c]
        exact ⟨by rw [c]; exact e, qr⟩
      · rw [if_neg c]
        exact ⟨rfl, g⟩
    · have rn : rnC (hearS co a b z s) = rnC co - 1 := by
        unfold rnC
        rw [E1, R13]
        rw [sumZ_c (g := fun j => updZ (fun j => bz (co 13 j = j)) r 0 j) (fun i i0 i1 => by
          by_cases c : i = r
          · rw [c, updZ_at]
            rw [updZ_at]
            exact bz_f (fun z => e z.symm)
          · rw [updZ_ne _ _ c, updZ_ne _ _ c])]
        rw [sumZ_upd _ rl.1 (by omega), bz_t rr]
        omega
      have un := fun w w0 w1 => rtF_un rr qr (co 0 1 - rnC co).toNat w (dp w w0 w1)
      have d1 : (co 0 1 - (rnC co - 1)).toNat = (co 0 1 - rnC co).toNat + 1 := by omega
      constructor
      · intro w w0 w1
        have u := un w w0 w1
        rw [st8 w w0 w1]
        refine ⟨?_, u.2⟩
        rw [rtF_fix ((co 0 1 - rnC co).toNat + 1) w (by rw [u.1]; exact u.2) 8 (by omega)]
        exact u.1
      · unfold DpI
        rw [rn, E1, R13, d1]
        intro w w0 w1
        have u := un w w0 w1
        rw [u.1]
        exact u.2
  refine ⟨?_, key.2⟩
  have ky := key.1
  have hm : ∀ k x, hrd co k x → hrd (hearS co a b z s) k x := fun k x g => by
    show 0 < updZ (co 9) (a * 8 + b) z (k * 8 + x)
    by_cases c : k * 8 + x = a * 8 + b
    · rw [c, updZ_at]
      omega
    · rw [updZ_ne _ _ c]
      exact g
  have ho : ∀ k x, 0 ≤ k → 0 ≤ x → x < 8 → hrd (hearS co a b z s) k x → (k = a ∧ x = b) ∨ hrd co k x := fun k x k0 x0 x1 g => by
    have g : 0 < updZ (co 9) (a * 8 + b) z (k * 8 + x) := g
    by_cases c : k * 8 + x = a * 8 + b
    · exact Or.inl (by omega)
    · rw [updZ_ne _ _ c] at g
      exact Or.inr g
  have cm : ∀ {x y}, Conn co x y → Conn (hearS co a b z s) x y := fun c S Sa cl => c S Sa (fun k x y k0 k1 x0 x1 y0 y1 hx hy => cl k x y k0 k1 x0 x1 y0 y1 (hm k x hx) (hm k y hy))
  have cf : Conn (hearS co a b z s) b f := by
    rcases fc with ⟨_, e⟩ | ⟨_, _, hfh, _, _⟩
    · rw [e]
      exact Conn.rfl' b
    · refine Conn.one (k := a) a0 a1 b0 (by omega) f0.1 (by omega) ?_ (hm a f hfh)
      show 0 < updZ (co 9) (a * 8 + b) z (a * 8 + b)
      rw [updZ_at]
      omega
  have hn : ∀ k x, 0 ≤ k → k < co 0 0 → 0 ≤ x → x < 8 → hrd co k x → x < co 0 1 := fun k x k0 k1 x0 x1 g => by
    obtain ⟨-, j, j0, j1, j2⟩ := t3 k x k0 (by omega) x0 x1 g
    have := (t1 k j k0 k1 j0 j1).1
    omega
  have up : ∀ w, 0 ≤ w → w < co 0 1 → Conn (hearS co a b z s) w (if rtF (co 13) 8 w = r then q else rtF (co 13) 8 w) := fun w w0 w1 => by
    have g := rtF_lt hl 8 w w0 w1
    by_cases c : rtF (co 13) 8 w = r
    · rw [if_pos c]
      have c1 : Conn co w b := (gr.2 w b w0 w1 b0 b1).mp (by rw [c]; exact hr)
      have c2 : Conn co f q := (gr.2 f q f0.1 f0.2 ql.1 ql.2).mp (by rw [rtF_root 8 q qr]; exact hq.symm)
      exact ((cm c1).trans cf).trans (cm c2)
    · rw [if_neg c]
      exact cm ((gr.2 w _ w0 w1 g.1 g.2).mp (by rw [rtF_root 8 _ (gr.root w0 w1)]))
  unfold GrI
  rw [E1, R13]
  refine ⟨fun w w0 w1 => ⟨?_, ?_⟩, fun w y w0 w1 y0 y1 => ⟨fun g => ?_, fun g => ?_⟩⟩
  · by_cases c : w = r
    · rw [c, updZ_at]
      exact ql.2
    · rw [updZ_ne _ _ c]
      exact (gr.1 w w0 w1).1
  · rw [(ky w w0 w1).1]
    exact (ky w w0 w1).2
  · rw [(ky w w0 w1).1, (ky y y0 y1).1] at g
    have u1 := up w w0 w1
    rw [g] at u1
    exact u1.trans (up y y0 y1).symm
  · rw [(ky w w0 w1).1, (ky y y0 y1).1]
    have aq : ∀ x, 0 ≤ x → x < 8 → hrd (hearS co a b z s) a x → (if rtF (co 13) 8 x = r then q else rtF (co 13) 8 x) = q := fun x x0 x1 hx => by
      rcases ho a x a0 x0 x1 hx with ⟨_, e⟩ | e
      · rw [e, if_pos hr.symm]
      · have xn := hn a x a0 a1 x0 x1 e
        rcases fc with ⟨e6, _⟩ | ⟨_, _, hfh, _, _⟩
        · obtain ⟨-, j, j0, j1, -⟩ := t3 a x a0 (by omega) x0 x1 e
          omega
        · have c1 : Conn co x f := Conn.one a0 a1 x0 x1 f0.1 (by omega) e hfh
          have c2 := (gr.2 x f x0 xn f0.1 f0.2).mpr c1
          rw [c2, ← hq]
          split
          · rfl
          · rfl
    have gg := g (fun x => (if rtF (co 13) 8 w = r then q else rtF (co 13) 8 w) = (if rtF (co 13) 8 x = r then q else rtF (co 13) 8 x)) rfl (fun k x y k0 k1 x0 x1 y0 y1 hx hy Sx => ?_)
    · exact gg
    · show (if rtF (co 13) 8 w = r then q else rtF (co 13) 8 w) = (if rtF (co 13) 8 y = r then q else rtF (co 13) 8 y)
      have Sx : (if rtF (co 13) 8 w = r then q else rtF (co 13) 8 w) = (if rtF (co 13) 8 x = r then q else rtF (co 13) 8 x) := Sx
      rw [Sx]
      by_cases c : k = a
      · rw [c] at hx hy
        rw [aq x x0 x1 hx, aq y y0 y1 hy]
      · rcases ho k x k0 x0 x1 hx with ⟨e, _⟩ | ex
        · exact absurd e c
        · rcases ho k y k0 y0 y1 hy with ⟨e, _⟩ | ey
          · exact absurd e c
          · have c2 := (gr.2 x y x0 (hn k x k0 k1 x0 x1 ex) y0 (hn k y k0 k1 y0 y1 ey)).mpr (Conn.one k0 k1 x0 x1 y0 y1 ex ey)
            rw [c2]
theorem hear_inv {co : Nat → Int → Int} (h : InvD co) {a b z s : Int} (a0 : 0 ≤ a) (a1 : a < co 0 0) (b0 : 0 ≤ b) (b1 : b < co 0 1) (hh : ¬ hrd co a b) (h6 : co 6 a < 6) (hz : 1 ≤ z ∧ z ≤ 5) (hs : s = 1 ∨ s = -1) : InvD (hearS co a b z s) := by
  have hO := h.inv.ok
  have hb0 := hO.b0
  have hbw := hO.bw
  have b6 := hO.b6 a
  have st := h.inv.st
  have rb := fun x x0 x1 => rtF_b (g := co 13) (fun i => hO.b13 i) 8 x x0 x1
  have fb : 0 ≤ updZ (co 7) (a * 6 + co 6 a) b (a * 6 + 0) ∧ updZ (co 7) (a * 6 + co 6 a) b (a * 6 + 0) ≤ 7 := updZ_b (fun i => hO.b7 i) ⟨b0, by omega⟩ _
  have ok1 : OkC (updC co 6 (updZ (co 6) a (co 6 a + 1))) := hO.upd (r := 6) (by decide) (by decide) ⟨by show (0 : Int) ≤ _; omega, by show _ ≤ (6 : Int); omega⟩
  have ok2 : OkC (updC (updC co 6 (updZ (co 6) a (co 6 a + 1))) 7 (updZ (co 7) (a * 6 + co 6 a) b)) := ok1.upd (r := 7) (by decide) (by decide) ⟨b0, by show _ ≤ (7 : Int); omega⟩
  have ok3 : OkC (updC (updC (updC co 6 (updZ (co 6) a (co 6 a + 1))) 7 (updZ (co 7) (a * 6 + co 6 a) b)) 8 (updZ (co 8) (a * 8 + b) s)) := ok2.upd (r := 8) (by decide) (by decide) ⟨by show (-1 : Int) ≤ _; omega, by show _ ≤ (1 : Int); omega⟩
  have ok4 : OkC (updC (updC (updC (updC co 6 (updZ (co 6) a (co 6 a + 1))) 7 (updZ (co 7) (a * 6 + co 6 a) b)) 8 (updZ (co 8) (a * 8 + b) s)) 9 (updZ (co 9) (a * 8 + b) z)) := ok3.upd (r := 9) (by decide) (by decide) ⟨by show (0 : Int) ≤ _; omega, by show _ ≤ (5 : Int); omega⟩
  have ok5 : OkC (hearS co a b z s) := ok4.upd (r := 13) (i := rtF (co 13) 8 b) (v := rtF (co 13) 8 ((updZ (co 7) (a * 6 + co 6 a) b) (a * 6 + 0))) (by decide) (by decide) (rb _ fb.1 fb.2)
  have g := hear_gr h (s := s) a0 a1 b0 b1 hh hz.1
  refine ⟨⟨ok5, hear_ts hO h.inv.ts a0 a1 b0 b1 hh h6 hz hs, ?_, h.inv.sn.of rfl rfl rfl rfl rfl, g.1⟩, g.2⟩
  refine ⟨fun k k0 k1 => ?_, st.2⟩
  have k0 : co 0 0 ≤ k := k0
  show co 4 k = 0 ∧ co 5 k = 0 ∧ updZ (co 6) a (co 6 a + 1) k = 0
  rw [updZ_ne _ _ (by omega)]
  exact st.1 k k0 k1
/-- a change that is allowed keeps what a court holds -/
theorem op_inv {co : Nat → Int → Int} (h : InvD co) {kd a b f z : Int} (hkd : 0 ≤ kd ∧ kd ≤ 6) (hf : flC co kd a b z = 0) : InvD (opC co kd a b f z) := by
  have hO := h.inv.ok
  unfold flC at hf
  unfold opC
  by_cases k0 : kd = 0
  · rw [if_pos k0] at hf ⊢
    unfold fCh at hf
    split at hf
    · split at hf
      · exact absurd hf (by decide)
      · exact open_inv h (by omega) (by omega) (by omega)
    · exact absurd hf (by decide)
  rw [if_neg k0] at hf ⊢
  by_cases k1 : kd = 1
  · rw [if_pos k1] at hf ⊢
    unfold fWi at hf
    split at hf
    · split at hf
      · exact absurd hf (by decide)
      · exact reg_inv h (by omega) (by omega)
    · exact absurd hf (by decide)
  rw [if_neg k1] at hf ⊢
  by_cases k2 : kd = 2
  · rw [if_pos k2] at hf ⊢
    unfold fTe at hf
    split at hf
    · rename_i q1
      split at hf
      · rename_i q2
        split at hf
        · rename_i q3
          split
          · exact hear_inv h q1.1.1 q1.1.2 q1.2.1 q1.2.2 q3.2.1 q3.2.2 q2 (Or.inl rfl)
          · exact hear_inv h q1.1.1 q1.1.2 q1.2.1 q1.2.2 q3.2.1 q3.2.2 q2 (Or.inr rfl)
        · exact absurd hf (by decide)
      · exact absurd hf (by decide)
    · exact absurd hf (by decide)
  rw [if_neg k2] at hf ⊢
  by_cases k3 : kd = 3
  · rw [if_pos k3] at hf ⊢
    unfold fQu at hf
    split at hf
    · rename_i q1
      split at hf
      · rename_i q2
        split at hf
        · rename_i q3
          have hb := hO.b11 b
          split
          · exact ask_inv h q1.1.1 q1.1.2 q1.2.1 q1.2.2 q2 q3.2 (by omega)
          · exact ask_inv h q1.1.1 q1.1.2 q1.2.1 q1.2.2 q2 q3.2 (by omega)
        · exact absurd hf (by decide)
      · exact absurd hf (by decide)
    · exact absurd hf (by decide)
  rw [if_neg k3] at hf ⊢
  by_cases k4 : kd = 4
  · rw [if_pos k4] at hf ⊢
    unfold fDe at hf
    split at hf
    · rename_i q1
      split at hf
      · rename_i q2
        split
        · split
          · exact judge1_inv h q1.1 q1.2 q2.1 (Or.inl rfl)
          · exact judge1_inv h q1.1 q1.2 q2.1 (Or.inr ⟨rfl, by omega⟩)
        · split
          · exact judge0_inv h q1.1 q1.2 q2.1 (Or.inl rfl)
          · exact judge0_inv h q1.1 q1.2 q2.1 (Or.inr ⟨rfl, by omega⟩)
      · exact absurd hf (by decide)
    · exact absurd hf (by decide)
  rw [if_neg k4] at hf ⊢
  unfold fAf at hf
  split at hf
  · rename_i q1
    split at hf
    · rename_i q2
      by_cases k5 : kd = 5
      · rw [if_pos k5]
        split
        · rename_i q4
          exact reopen1_inv h q1.1 q1.2 q2 q4
        · rename_i q4
          exact reopen0_inv h q1.1 q1.2 q2 (by omega)
      · rw [if_neg k5]
        exact finish_inv h q1.1 q1.2
    · exact absurd hf (by decide)
  · exact absurd hf (by decide)
theorem c0_inv : InvD c0 := by
  refine ⟨⟨⟨⟨Int.le_refl _, by decide⟩, ⟨Int.le_refl _, by decide⟩, fun r r1 r2 i => ?_⟩, ⟨?_, ?_, ?_, ?_⟩, ⟨?_, ?_⟩, ?_, ?_, ?_⟩, ?_⟩
  · show loC r ≤ 0 ∧ 0 ≤ hiC r
    have : ∀ r : Fin 14, loC r.val ≤ 0 ∧ 0 ≤ hiC r.val := by decide
    exact this ⟨r, by omega⟩
  · intro k j k0 k1
    have k1 : k < 0 := k1
    omega
  · intro k i j k0 k1
    have k1 : k < 0 := k1
    omega
  · intro k w _ _ _ _ q
    have q : (0 : Int) < 0 := q
    omega
  · intro k w _ _ _ _ _
    exact ⟨rfl, rfl⟩
  · intro k _ _
    exact ⟨rfl, rfl, rfl⟩
  · intro k k0 k1
    have k1 : k < 0 := k1
    omega
  · intro d _ _
    rfl
  · intro w w0 w1
    have w1 : w < 0 := w1
    omega
  · intro w y w0 w1
    have w1 : w < 0 := w1
    omega
  · intro w w0 w1
    have w1 : w < 0 := w1
    omega

