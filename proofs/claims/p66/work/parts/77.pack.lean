/-! contracts repacked: what stands behind "there are" -/
theorem Mu.exi {α : Type} {l : Launch} {y : MethodName} {cy : ByteArray} {my : Nat} {ry : Option FieldType} {Lv mc ms : Nat} {E : Nat → Nat → Nat} {rs : List (Nat × Nat)} {av : List Value} {Pr : α → Heap → Prop} {Po : Option Value → Heap → Prop} (h : ∀ a : α, Mu l y cy my ry Lv mc ms E rs av (Pr a) Po) : Mu l y cy my ry Lv mc ms E rs av (fun H => ∃ a, Pr a H) Po := by
  intro sz p e ha hc hk s m args below hf happ hp hk'
  obtain ⟨h1, h2, h3, h4, a, h5⟩ := hp
  exact h a sz p e ha hc hk s m args below hf happ ⟨h1, h2, h3, h4, h5⟩ hk'
theorem Mu.pre {l : Launch} {y : MethodName} {cy : ByteArray} {my : Nat} {ry : Option FieldType} {Lv mc ms : Nat} {E : Nat → Nat → Nat} {rs : List (Nat × Nat)} {av : List Value} {P : Prop} {Pr : Heap → Prop} {Po : Option Value → Heap → Prop} (h : P → Mu l y cy my ry Lv mc ms E rs av Pr Po) : Mu l y cy my ry Lv mc ms E rs av (fun H => P ∧ Pr H) Po := by
  intro sz p e ha hc hk s m args below hf happ hp hk'
  obtain ⟨h1, h2, h3, h4, a, h5⟩ := hp
  exact h a sz p e ha hc hk s m args below hf happ ⟨h1, h2, h3, h4, h5⟩ hk'
/-- what stood at the start, and what was left alone -/
theorem Mu.fr {l : Launch} {y : MethodName} {cy : ByteArray} {my : Nat} {ry : Option FieldType} {Lv mc ms : Nat} {E : Nat → Nat → Nat} {rs : List (Nat × Nat)} {av : List Value} {Pr : Heap → Prop} {Po : Option Value → Heap → Prop} (h : Mu l y cy my ry Lv mc ms E rs av Pr Po) : Mu l y cy my ry Lv mc ms E rs av Pr (fun v H => Po v H ∧ ∃ H0, Pr H0 ∧ Fm rs H0 H) := by
  intro sz
  refine MetFree.mono (h sz) (fun a s q => q) (fun _ _ _ _ _ k => k) (fun a s o t g q => ?_)
  obtain ⟨⟨v, h1, h2, h3⟩, h4⟩ := q
  exact ⟨⟨v, h1, ⟨h2, _, g.2.2.2.2, h3⟩, h3⟩, h4⟩
theorem Mu.mono2 {l : Launch} {y : MethodName} {cy : ByteArray} {my : Nat} {ry : Option FieldType} {Lv mc ms : Nat} {E : Nat → Nat → Nat} {rs : List (Nat × Nat)} {av : List Value} {Pr Pr' : Heap → Prop} {Po Po' : Option Value → Heap → Prop} (h : Mu l y cy my ry Lv mc ms E rs av Pr Po) (hp : ∀ H, Pr' H → Pr H) (hq : ∀ v H, Po v H → Po' v H) : Mu l y cy my ry Lv mc ms E rs av Pr' Po' := by
  intro sz
  refine MetFree.mono (h sz) (fun a s q => ?_) (fun _ _ _ _ _ k => k) (fun a s o t _ q => ?_)
  · exact ⟨q.1, q.2.1, q.2.2.1, q.2.2.2.1, hp _ q.2.2.2.2⟩
  · obtain ⟨⟨v, h1, h2, h3⟩, h4⟩ := q
    exact ⟨⟨v, h1, hq _ _ h2, h3⟩, h4⟩
theorem MuW.exi {α : Type} {l : Launch} {y : MethodName} {cy : ByteArray} {my : Nat} {ry : Option FieldType} {Lv mc ms : Nat} {E : Nat → Nat → Nat} {rs : List (Nat × Nat)} {av : List Value} {hh : List (Nat × Nat × Nat × Nat)} {Pr : α → Heap → Prop} {Po : Option Value → Heap → Prop} (h : ∀ a : α, MuW l y cy my ry hh Lv mc ms E rs av (Pr a) Po) : MuW l y cy my ry hh Lv mc ms E rs av (fun H => ∃ a, Pr a H) Po := by
  intro sz p e ha hc hk s m args below hf happ hp hk'
  obtain ⟨h1, h2, h3, h4, a, h5⟩ := hp
  exact h a sz p e ha hc hk s m args below hf happ ⟨h1, h2, h3, h4, h5⟩ hk'
theorem MuW.pre {l : Launch} {y : MethodName} {cy : ByteArray} {my : Nat} {ry : Option FieldType} {Lv mc ms : Nat} {E : Nat → Nat → Nat} {rs : List (Nat × Nat)} {av : List Value} {hh : List (Nat × Nat × Nat × Nat)} {P : Prop} {Pr : Heap → Prop} {Po : Option Value → Heap → Prop} (h : P → MuW l y cy my ry hh Lv mc ms E rs av Pr Po) : MuW l y cy my ry hh Lv mc ms E rs av (fun H => P ∧ Pr H) Po := by
  intro sz p e ha hc hk s m args below hf happ hp hk'
  obtain ⟨h1, h2, h3, h4, a, h5⟩ := hp
  exact h a sz p e ha hc hk s m args below hf happ ⟨h1, h2, h3, h4, h5⟩ hk'
/-- what stood at the start, and what was left alone -/
theorem MuW.fr {l : Launch} {y : MethodName} {cy : ByteArray} {my : Nat} {ry : Option FieldType} {Lv mc ms : Nat} {E : Nat → Nat → Nat} {rs : List (Nat × Nat)} {av : List Value} {hh : List (Nat × Nat × Nat × Nat)} {Pr : Heap → Prop} {Po : Option Value → Heap → Prop} (h : MuW l y cy my ry hh Lv mc ms E rs av Pr Po) : MuW l y cy my ry hh Lv mc ms E rs av Pr (fun v H => Po v H ∧ ∃ H0, Pr H0 ∧ Fm rs H0 H) := by
  intro sz
  refine MetFree.mono (h sz) (fun a s q => q) (fun _ _ _ _ _ k => k) (fun a s o t g q => ?_)
  obtain ⟨⟨v, h1, h2, h3⟩, h4⟩ := q
  exact ⟨⟨v, h1, ⟨h2, _, g.2.2.2.2, h3⟩, h3⟩, h4⟩
theorem MuW.mono2 {l : Launch} {y : MethodName} {cy : ByteArray} {my : Nat} {ry : Option FieldType} {Lv mc ms : Nat} {E : Nat → Nat → Nat} {rs : List (Nat × Nat)} {av : List Value} {hh : List (Nat × Nat × Nat × Nat)} {Pr Pr' : Heap → Prop} {Po Po' : Option Value → Heap → Prop} (h : MuW l y cy my ry hh Lv mc ms E rs av Pr Po) (hp : ∀ H, Pr' H → Pr H) (hq : ∀ v H, Po v H → Po' v H) : MuW l y cy my ry hh Lv mc ms E rs av Pr' Po' := by
  intro sz
  refine MetFree.mono (h sz) (fun a s q => ?_) (fun _ _ _ _ _ k => k) (fun a s o t _ q => ?_)
  · exact ⟨q.1, q.2.1, q.2.2.1, q.2.2.2.1, hp _ q.2.2.2.2⟩
  · obtain ⟨⟨v, h1, h2, h3⟩, h4⟩ := q
    exact ⟨⟨v, h1, hq _ _ h2, h3⟩, h4⟩
/-- a contract that only reads, as one that may write -/
theorem Rd.mu {l : Launch} {y : MethodName} {cy : ByteArray} {my : Nat} {ry : Option FieldType} {Lv : Nat} {E : Nat → Nat → Nat} {av : List Value} {ws : va_W} {w : Option Value} (h : Rd l y cy my ry Lv E av ws w) : Mu l y cy my ry Lv 0 0 E [] av (fun H => PW E ws H) (fun v H => v = w ∧ PW E ws H) := by
  intro sz
  refine MetFree.mono h (fun a s q => ⟨q.1, q.2.1, q.2.2.2.2⟩) (fun _ _ _ _ _ k => k) (fun a s o t g q => ?_)
  obtain ⟨⟨h1, h2⟩, L, h4, h5⟩ := q
  exact ⟨⟨w, h1, ⟨rfl, by rw [h2]; exact g.2.2.2.2⟩, by rw [h2]; exact Fm.rf⟩, L, h4, fun q hq => (h5 q hq).elim⟩
/-! the law's world: the object of the class -/
def CmW (E : Nat → Nat → Nat) (x : Nat) (H : Heap) : Prop := PR E x [(x, .inr (11, [.ref (x + 1), .ref (x + 29), .ref (x + 57), .ref (x + 85), .ref (x + 311), .ref (x + 314), .ref (x + 319), .ref (x + 332), .int (zI 0), .int (zI (-1)), .int (zI (-1)), .int (zI 0)]))] H
/-- docket, search, the line: rows that reading calls use; the line's bytes stand at v, its text is T -/
def RW (E : Nat → Nat → Nat) (x v : Nat) (T : List Int) (H : Heap) : Prop := ∃ t : (Nat → Int → Int) × (Nat → Int → Int) × Nat × (Int → Int) × Int × Int, (SBs t.2.2.2.1 t.2.2.1 t.2.2.2.2.1 T ∧ t.2.2.2.2.1 ≤ 60 ∧ (v = x + 333 ∨ x + 334 ≤ v)) ∧ PR E (x + 311) (docketW E (x + 311) t.1) H ∧ PR E (x + 314) (searchW E (x + 314) t.2.1) H ∧ PR E (x + 332) [(x + 332, .inr (1, [.ref v, .int (zI 0), .int (zI t.2.2.2.2.2), .int (zI t.2.2.2.2.1)]))] H ∧ PR E v [(v, .inl (E 102 2, t.2.2.1, .inl (zA t.2.2.2.1)))] H
theorem RW.kept {E : Nat → Nat → Nat} {x v : Nat} {T : List Int} {H H1 : Heap} {rs : List (Nat × Nat)} (h : RW E x v T H) (hF : Fm rs H H1) (hd : ∀ q, (x + 311 ≤ q ∧ q < x + 319) ∨ q = x + 332 ∨ q = v → ¬ Fs rs q) : RW E x v T H1 := by
  obtain ⟨t, h0, h1, h2, h3, h4⟩ := h
  exact ⟨t, h0, h1.kept hF 3 rfl (fun q a b => hd q (by omega)), h2.kept hF 5 rfl (fun q a b => hd q (by omega)), h3.kept hF 1 rfl (fun q a b => hd q (by omega)), h4.kept hF 1 rfl (fun q a b => hd q (by omega))⟩
theorem RW.lt {E : Nat → Nat → Nat} {x v : Nat} {T : List Int} {H : Heap} (h : RW E x v T H) : v < H.size ∧ x + 332 < H.size ∧ (v = x + 333 ∨ x + 334 ≤ v) := by
  obtain ⟨t, h0, h1, h2, h3, h4⟩ := h
  exact ⟨(h4.1 0 _ rfl).lt, (h3.1 0 _ rfl).lt, h0.2.2⟩
/-- the ring of courts -/
def HW (E : Nat → Nat → Nat) (x : Nat) (H : Heap) : Prop := ∃ t : (Nat → Nat → Int → Int) × Int × Int, ((0 ≤ t.2.1 ∧ t.2.1 < 8) ∧ 0 ≤ t.2.2 ∧ t.2.2 ≤ 8) ∧ PR E (x + 85) [(x + 85, .inr (7, [.ref (x + 86), .int (zI t.2.1), .int (zI t.2.2)])), (x + 86, .inl (E 102 3, 8, .inr (.inr (.inr (.inr (hisA (x + 87) 8))))))] H ∧ HF E (x + 87) 8 t.1 H
theorem HW.kept {E : Nat → Nat → Nat} {x : Nat} {H H1 : Heap} {rs : List (Nat × Nat)} (h : HW E x H) (hF : Fm rs H H1) (hd : ∀ q, x + 85 ≤ q → q < x + 311 → ¬ Fs rs q) : HW E x H1 := by
  obtain ⟨t, h0, h1, h2⟩ := h
  exact ⟨t, h0, h1.kept hF 2 rfl (fun q a b => hd q (by omega) (by omega)), h2.kept hF (fun q a b => hd q (by omega) (by omega))⟩
/-- a String with a text -/
def StrW (E : Nat → Nat → Nat) (b : Nat) (T : List Int) (H : Heap) : Prop := ∃ t : Nat × (Int → Int), (LT t.2 (t.1 : Int) T ∧ (∀ j : Int, 0 ≤ t.2 j ∧ t.2 j < 128) ∧ t.1 < 1000) ∧ PR E b [(b, .inr (0, [.ref (b + 1), .int (zI 0), .int (zI 0), .int (zI 0)])), (b + 1, .inl (E 102 2, t.1, .inl (zA t.2)))] H
theorem StrW.kept {E : Nat → Nat → Nat} {b : Nat} {T : List Int} {H H1 : Heap} {rs : List (Nat × Nat)} (h : StrW E b T H) (hF : Fm rs H H1) (hd : ∀ q, b ≤ q → q < b + 2 → ¬ Fs rs q) : StrW E b T H1 := by
  obtain ⟨t, h0, h1⟩ := h
  exact ⟨t, h0, h1.kept hF 2 rfl hd⟩
theorem StrW.lt {E : Nat → Nat → Nat} {b : Nat} {T : List Int} {H : Heap} (h : StrW E b T H) : b + 1 < H.size := by
  obtain ⟨t, h0, h1⟩ := h
  exact (h1.1 1 _ rfl).lt
