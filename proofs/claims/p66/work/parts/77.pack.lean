/-! contracts repacked: what stands behind "there are" -/
theorem Mu.exi {α : Type} {l : Launch} {y : MethodName} {cy : ByteArray} {my : Nat} {ry : Option FieldType} {Lv mc ms : Nat} {E : Nat → Nat → Nat} {rs : List (Nat × Nat)} {av : List Value} {Pr : α → Heap → Prop} {Po : Option Value → Heap → Prop} (h : ∀ a : α, Mu l y cy my ry Lv mc ms E rs av (Pr a) Po) : Mu l y cy my ry Lv mc ms E rs av (fun H => ∃ a, Pr a H) Po := by
  intro sz p e ha hc hk s m args below hf happ hp hk'
  obtain ⟨h1, h2, h3, h4, a, h5⟩ := hp
  exact h a sz p e ha hc hk s m args below hf happ ⟨h1, h2, h3, h4, h5⟩ hk'
theorem Mu.pre {l : Launch} {y : MethodName} {cy : ByteArray} {my : Nat} {ry : Option FieldType} {Lv mc ms : Nat} {E : Nat → Nat → Nat} {rs : List (Nat × Nat)} {av : List Value} {P : Prop} {Pr : Heap → Prop} {Po : Option Value → Heap → Prop} (h : P → Mu l y cy my ry Lv mc ms E rs av Pr Po) : Mu l y cy my ry Lv mc ms E rs av (fun H => P ∧ Pr H) Po := by
  intro sz p e ha hc hk s m args below hf happ hp hk'
  obtain ⟨h1, h2, h3, h4, a, h5⟩ := hp
  exact h a sz p e ha hc hk s m args below hf happ ⟨h1, h2, h3, h4, h5⟩ hk'
/-- what stood at the start, and what was left alone -/
theorem Mu.fr {l : Launch} {y : MethodName} {cy : ByteArray} {my : Nat} {ry : Option FieldType} {Lv mc ms : Nat} {E : Nat → Nat → Nat} {rs : List (Nat × Nat)} {av : List Value} {Pr : Heap → Prop} {Po : Option Value → Heap → Prop} (h : Mu l y cy my ry Lv mc ms E rs av Pr Po) : Mu l y cy my ry Lv mc ms E rs av Pr (fun v H => Po v H ∧ ∃ H0, Pr H0 ∧ Fm rs H0 H) := by
  intro sz
  refine MetFree.mono (h sz) (fun a s q => q) (fun _ _ _ _ _ k => k) (fun a s o t g q => ?_)
  obtain ⟨⟨v, h1, h2, h3⟩, h4⟩ := q
  exact ⟨⟨v, h1, ⟨h2, _, g.2.2.2.2, h3⟩, h3⟩, h4⟩
theorem Mu.rs' {l : Launch} {y : MethodName} {cy : ByteArray} {my : Nat} {ry : Option FieldType} {Lv mc ms : Nat} {E : Nat → Nat → Nat} {rs : List (Nat × Nat)} {av : List Value} {rs' : List (Nat × Nat)} {Pr : Heap → Prop} {Po : Option Value → Heap → Prop} (h : Mu l y cy my ry Lv mc ms E rs av Pr Po) (hs : ∀ q, Fs rs q → Fs rs' q) : Mu l y cy my ry Lv mc ms E rs' av Pr Po := by
  intro sz
  refine MetFree.mono (h sz) (fun a s q => ⟨q.1, q.2.1, q.2.2.1, fun z hz => q.2.2.2.1 z (hs z hz), q.2.2.2.2⟩) (fun _ _ _ _ _ k => k) (fun a s o t g q => ?_)
  obtain ⟨⟨v, h1, h2, h3⟩, L, h4, h5⟩ := q
  exact ⟨⟨v, h1, h2, h3.wide hs⟩, L, h4, fun q hq => (h5 q hq).elim (fun z => Or.inl (hs _ z)) Or.inr⟩
theorem Mu.mono2 {l : Launch} {y : MethodName} {cy : ByteArray} {my : Nat} {ry : Option FieldType} {Lv mc ms : Nat} {E : Nat → Nat → Nat} {rs : List (Nat × Nat)} {av : List Value} {Pr Pr' : Heap → Prop} {Po Po' : Option Value → Heap → Prop} (h : Mu l y cy my ry Lv mc ms E rs av Pr Po) (hp : ∀ H, Pr' H → Pr H) (hq : ∀ v H, Po v H → Po' v H) : Mu l y cy my ry Lv mc ms E rs av Pr' Po' := by
  intro sz
  refine MetFree.mono (h sz) (fun a s q => ?_) (fun _ _ _ _ _ k => k) (fun a s o t _ q => ?_)
  · exact ⟨q.1, q.2.1, q.2.2.1, q.2.2.2.1, hp _ q.2.2.2.2⟩
  · obtain ⟨⟨v, h1, h2, h3⟩, h4⟩ := q
    exact ⟨⟨v, h1, hq _ _ h2, h3⟩, h4⟩
theorem MuW.exi {α : Type} {l : Launch} {y : MethodName} {cy : ByteArray} {my : Nat} {ry : Option FieldType} {Lv mc ms : Nat} {E : Nat → Nat → Nat} {rs : List (Nat × Nat)} {av : List Value} {hh : List (Nat × Nat × Nat × Nat)} {Pr : α → Heap → Prop} {Po : Option Value → Heap → Prop} (h : ∀ a : α, MuW l y cy my ry hh Lv mc ms E rs av (Pr a) Po) : MuW l y cy my ry hh Lv mc ms E rs av (fun H => ∃ a, Pr a H) Po := by
  intro sz p e ha hc hk s m args below hf happ hp hk'
  obtain ⟨h1, h2, h3, h4, a, h5⟩ := hp
  exact h a sz p e ha hc hk s m args below hf happ ⟨h1, h2, h3, h4, h5⟩ hk'
theorem MuW.pre {l : Launch} {y : MethodName} {cy : ByteArray} {my : Nat} {ry : Option FieldType} {Lv mc ms : Nat} {E : Nat → Nat → Nat} {rs : List (Nat × Nat)} {av : List Value} {hh : List (Nat × Nat × Nat × Nat)} {P : Prop} {Pr : Heap → Prop} {Po : Option Value → Heap → Prop} (h : P → MuW l y cy my ry hh Lv mc ms E rs av Pr Po) : MuW l y cy my ry hh Lv mc ms E rs av (fun H => P ∧ Pr H) Po := by
  intro sz p e ha hc hk s m args below hf happ hp hk'
  obtain ⟨h1, h2, h3, h4, a, h5⟩ := hp
  exact h a sz p e ha hc hk s m args below hf happ ⟨h1, h2, h3, h4, h5⟩ hk'
/-- what stood at the start, and what was left alone -/
theorem MuW.fr {l : Launch} {y : MethodName} {cy : ByteArray} {my : Nat} {ry : Option FieldType} {Lv mc ms : Nat} {E : Nat → Nat → Nat} {rs : List (Nat × Nat)} {av : List Value} {hh : List (Nat × Nat × Nat × Nat)} {Pr : Heap → Prop} {Po : Option Value → Heap → Prop} (h : MuW l y cy my ry hh Lv mc ms E rs av Pr Po) : MuW l y cy my ry hh Lv mc ms E rs av Pr (fun v H => Po v H ∧ ∃ H0, Pr H0 ∧ Fm rs H0 H) := by
  intro sz
  refine MetFree.mono (h sz) (fun a s q => q) (fun _ _ _ _ _ k => k) (fun a s o t g q => ?_)
  obtain ⟨⟨v, h1, h2, h3⟩, h4⟩ := q
  exact ⟨⟨v, h1, ⟨h2, _, g.2.2.2.2, h3⟩, h3⟩, h4⟩
theorem MuW.rs' {l : Launch} {y : MethodName} {cy : ByteArray} {my : Nat} {ry : Option FieldType} {Lv mc ms : Nat} {E : Nat → Nat → Nat} {rs : List (Nat × Nat)} {av : List Value} {hh : List (Nat × Nat × Nat × Nat)} {rs' : List (Nat × Nat)} {Pr : Heap → Prop} {Po : Option Value → Heap → Prop} (h : MuW l y cy my ry hh Lv mc ms E rs av Pr Po) (hs : ∀ q, Fs rs q → Fs rs' q) : MuW l y cy my ry hh Lv mc ms E rs' av Pr Po := by
  intro sz
  refine MetFree.mono (h sz) (fun a s q => ⟨q.1, q.2.1, q.2.2.1, fun z hz => q.2.2.2.1 z (hs z hz), q.2.2.2.2⟩) (fun _ _ _ _ _ k => k) (fun a s o t g q => ?_)
  obtain ⟨⟨v, h1, h2, h3⟩, L, h4, h5⟩ := q
  exact ⟨⟨v, h1, h2, h3.wide hs⟩, L, h4, fun q hq => (h5 q hq).elim (fun z => Or.inl (hs _ z)) Or.inr⟩
theorem MuW.mono2 {l : Launch} {y : MethodName} {cy : ByteArray} {my : Nat} {ry : Option FieldType} {Lv mc ms : Nat} {E : Nat → Nat → Nat} {rs : List (Nat × Nat)} {av : List Value} {hh : List (Nat × Nat × Nat × Nat)} {Pr Pr' : Heap → Prop} {Po Po' : Option Value → Heap → Prop} (h : MuW l y cy my ry hh Lv mc ms E rs av Pr Po) (hp : ∀ H, Pr' H → Pr H) (hq : ∀ v H, Po v H → Po' v H) : MuW l y cy my ry hh Lv mc ms E rs av Pr' Po' := by
  intro sz
  refine MetFree.mono (h sz) (fun a s q => ?_) (fun _ _ _ _ _ k => k) (fun a s o t _ q => ?_)
  · exact ⟨q.1, q.2.1, q.2.2.1, q.2.2.2.1, hp _ q.2.2.2.2⟩
  · obtain ⟨⟨v, h1, h2, h3⟩, h4⟩ := q
    exact ⟨⟨v, h1, hq _ _ h2, h3⟩, h4⟩
/-- a contract that only reads, as one that may write -/
theorem Rd.mu {l : Launch} {y : MethodName} {cy : ByteArray} {my : Nat} {ry : Option FieldType} {Lv : Nat} {E : Nat → Nat → Nat} {av : List Value} {ws : va_W} {w : Option Value} (h : Rd l y cy my ry Lv E av ws w) : Mu l y cy my ry Lv 0 0 E [] av (fun H => PW E ws H) (fun v H => v = w ∧ PW E ws H) := by
  intro sz
  have h1 : Met l y (.code y cy my ry :: WA) (rmL Lv 0 0) (P0 E av ws) (Q0 w) 0 0 (fun _ => False) := h
  refine MetFree.mono h1 (fun a s q => ⟨q.1, q.2.1, q.2.2.2.2⟩) (fun _ _ _ _ _ k => k) (fun a s o t g q => ?_)
  obtain ⟨⟨h1, h2⟩, L, h4, h5⟩ := q
  exact ⟨⟨w, h1, ⟨rfl, by rw [h2]; exact g.2.2.2.2⟩, by rw [h2]; exact Fm.rf⟩, L, h4, fun q hq => (h5 q hq).elim⟩
/-! the law's world: the object of the class -/
def CmW (E : Nat → Nat → Nat) (x : Nat) (H : Heap) : Prop := PR E x [(x, .inr (11, [.ref (x + 1), .ref (x + 29), .ref (x + 57), .ref (x + 85), .ref (x + 311), .ref (x + 314), .ref (x + 319), .ref (x + 332), .int (zI 0), .int (zI (-1)), .int (zI (-1)), .int (zI 0)]))] H
/-- docket, search, the line: rows that reading calls use; the line's bytes stand at v, its text is T -/
def RWb (E : Nat → Nat → Nat) (x v : Nat) (T : List Int) (t : (Nat → Int → Int) × (Nat → Int → Int) × Nat × (Int → Int) × Int × Int) (H : Heap) : Prop := (SBs t.2.2.2.1 t.2.2.1 t.2.2.2.2.1 T ∧ t.2.2.2.2.1 ≤ 60 ∧ (v = x + 333 ∨ x + 334 ≤ v)) ∧ PR E (x + 311) (docketW E (x + 311) t.1) H ∧ PR E (x + 314) (searchW E (x + 314) t.2.1) H ∧ PR E (x + 332) [(x + 332, .inr (1, [.ref v, .int (zI 0), .int (zI t.2.2.2.2.2), .int (zI t.2.2.2.2.1)]))] H ∧ PR E v [(v, .inl (E 102 2, t.2.2.1, .inl (zA t.2.2.2.1)))] H
def RW (E : Nat → Nat → Nat) (x v : Nat) (T : List Int) (H : Heap) : Prop := ∃ t, RWb E x v T t H
theorem RW.kept {E : Nat → Nat → Nat} {x v : Nat} {T : List Int} {H H1 : Heap} {rs : List (Nat × Nat)} (h : RW E x v T H) (hF : Fm rs H H1) (hd : ∀ q, (x + 311 ≤ q ∧ q < x + 319) ∨ q = x + 332 ∨ q = v → ¬ Fs rs q) : RW E x v T H1 := by
  obtain ⟨t, h0, h1, h2, h3, h4⟩ := h
  exact ⟨t, h0, h1.kept hF 3 rfl (fun q a b => hd q (by omega)), h2.kept hF 5 rfl (fun q a b => hd q (by omega)), h3.kept hF 1 rfl (fun q a b => hd q (by omega)), h4.kept hF 1 rfl (fun q a b => hd q (by omega))⟩
theorem RW.lt {E : Nat → Nat → Nat} {x v : Nat} {T : List Int} {H : Heap} (h : RW E x v T H) : v < H.size ∧ x + 332 < H.size ∧ (v = x + 333 ∨ x + 334 ≤ v) := by
  obtain ⟨t, h0, h1, h2, h3, h4⟩ := h
  exact ⟨(h4.1 0 _ rfl).lt, (h3.1 0 _ rfl).lt, h0.2.2⟩
theorem RWb.dk {E : Nat → Nat → Nat} {x v : Nat} {T : List Int} {t : (Nat → Int → Int) × (Nat → Int → Int) × Nat × (Int → Int) × Int × Int} {H H1 : Heap} {dk : Nat → Int → Int} (h : RWb E x v T t H) (hF : Fm [(x + 311, 3)] H H1) (h1 : PR E (x + 311) (docketW E (x + 311) dk) H1) : RW E x v T H1 := by
  have hv := h.1.2.2
  exact ⟨(dk, t.2), h.1, h1, h.2.2.1.kept hF 5 rfl (fsd (by omega)), h.2.2.2.1.kept hF 1 rfl (fsd (by omega)), h.2.2.2.2.kept hF 1 rfl (fsd (by omega))⟩
theorem RWb.se {E : Nat → Nat → Nat} {x v : Nat} {T : List Int} {t : (Nat → Int → Int) × (Nat → Int → Int) × Nat × (Int → Int) × Int × Int} {H H1 : Heap} {se : Nat → Int → Int} (h : RWb E x v T t H) (hF : Fm [(x + 314, 5)] H H1) (h1 : PR E (x + 314) (searchW E (x + 314) se) H1) : RW E x v T H1 := by
  have hv := h.1.2.2
  exact ⟨(t.1, se, t.2.2), h.1, h.2.1.kept hF 3 rfl (fsd (by omega)), h1, h.2.2.2.1.kept hF 1 rfl (fsd (by omega)), h.2.2.2.2.kept hF 1 rfl (fsd (by omega))⟩
theorem RWb.ds {E : Nat → Nat → Nat} {x v : Nat} {T : List Int} {t : (Nat → Int → Int) × (Nat → Int → Int) × Nat × (Int → Int) × Int × Int} {H H1 : Heap} {dk se : Nat → Int → Int} (h : RWb E x v T t H) (hF : Fm [(x + 311, 3), (x + 314, 5)] H H1) (h0 : PR E (x + 311) (docketW E (x + 311) dk) H1) (h1 : PR E (x + 314) (searchW E (x + 314) se) H1) : RW E x v T H1 := by
  have hv := h.1.2.2
  exact ⟨(dk, se, t.2.2), h.1, h0, h1, h.2.2.2.1.kept hF 1 rfl (by intro q q1 q2 q3; simp only [Fs, or_false] at q3; omega), h.2.2.2.2.kept hF 1 rfl (by intro q q1 q2 q3; simp only [Fs, or_false] at q3; omega)⟩
theorem RWb.ln {E : Nat → Nat → Nat} {x v v1 N : Nat} {f : Int → Int} {n ml : Int} {T T1 : List Int} {t : (Nat → Int → Int) × (Nat → Int → Int) × Nat × (Int → Int) × Int × Int} {H H1 : Heap} (h : RWb E x v T t H) (hF : Fm [(x + 332, 1), (v, 1)] H H1) (hT : SBs f N n T1) (hn : n ≤ 60) (hv1 : v1 = x + 333 ∨ x + 334 ≤ v1) (h0 : PR E (x + 332) [(x + 332, .inr (1, [.ref v1, .int (zI 0), .int (zI ml), .int (zI n)]))] H1) (h1 : PR E v1 [(v1, .inl (E 102 2, N, .inl (zA f)))] H1) : RW E x v1 T1 H1 := by
  have hv := h.1.2.2
  exact ⟨(t.1, t.2.1, N, f, n, ml), ⟨hT, hn, hv1⟩, h.2.1.kept hF 3 rfl (by intro q q1 q2 q3; simp only [Fs, or_false] at q3; omega), h.2.2.1.kept hF 5 rfl (by intro q q1 q2 q3; simp only [Fs, or_false] at q3; omega), h0, h1⟩
/-- the ring of courts -/
def HWb (E : Nat → Nat → Nat) (x : Nat) (t : (Nat → Nat → Int → Int) × Int × Int) (H : Heap) : Prop := ((0 ≤ t.2.1 ∧ t.2.1 < 8) ∧ 0 ≤ t.2.2 ∧ t.2.2 ≤ 8) ∧ PR E (x + 85) [(x + 85, .inr (7, [.ref (x + 86), .int (zI t.2.1), .int (zI t.2.2)])), (x + 86, .inl (E 102 3, 8, .inr (.inr (.inr (.inr (hisA (x + 87) 8))))))] H ∧ HF E (x + 87) 8 t.1 H
def HW (E : Nat → Nat → Nat) (x : Nat) (H : Heap) : Prop := ∃ t, HWb E x t H
theorem HW.kept {E : Nat → Nat → Nat} {x : Nat} {H H1 : Heap} {rs : List (Nat × Nat)} (h : HW E x H) (hF : Fm rs H H1) (hd : ∀ q, x + 85 ≤ q → q < x + 311 → ¬ Fs rs q) : HW E x H1 := by
  obtain ⟨t, h0, h1, h2⟩ := h
  exact ⟨t, h0, h1.kept hF 2 rfl (fun q a b => hd q (by omega) (by omega)), h2.kept hF (fun q a b => hd q (by omega) (by omega))⟩
/-- a String with a text -/
def StrB (E : Nat → Nat → Nat) (b : Nat) (T : List Int) (t : Nat × (Int → Int)) (H : Heap) : Prop := (LT t.2 (t.1 : Int) T ∧ (∀ j : Int, 0 ≤ t.2 j ∧ t.2 j < 128) ∧ t.1 < 1000) ∧ PR E b [(b, .inr (0, [.ref (b + 1), .int (zI 0), .int (zI 0), .int (zI 0)])), (b + 1, .inl (E 102 2, t.1, .inl (zA t.2)))] H
def StrW (E : Nat → Nat → Nat) (b : Nat) (T : List Int) (H : Heap) : Prop := ∃ t, StrB E b T t H
theorem StrW.kept {E : Nat → Nat → Nat} {b : Nat} {T : List Int} {H H1 : Heap} {rs : List (Nat × Nat)} (h : StrW E b T H) (hF : Fm rs H H1) (hd : ∀ q, b ≤ q → q < b + 2 → ¬ Fs rs q) : StrW E b T H1 := by
  obtain ⟨t, h0, h1⟩ := h
  exact ⟨t, h0, h1.kept hF 2 rfl hd⟩
theorem StrW.lt {E : Nat → Nat → Nat} {b : Nat} {T : List Int} {H : Heap} (h : StrW E b T H) : b + 1 < H.size := by
  obtain ⟨t, h0, h1⟩ := h
  exact (h1.1 1 _ rfl).lt
