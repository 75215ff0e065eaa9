theorem TsI.sw {co : Nat → Int → Int} (h : TsI co) {k w : Int} (h0 : 0 ≤ k) (h1 : k < 16) (w0 : 0 ≤ w) (w1 : w < 8) (q : hrd co k w) : co 8 (k * 8 + w) = 1 ∨ co 8 (k * 8 + w) = -1 := by
  obtain ⟨hk, j, j0, j1, j2⟩ := h.2.2.1 k w h0 h1 w0 w1 q
  have := (h.a h0 hk j0 j1).2.2
  rw [j2] at this
  exact this
