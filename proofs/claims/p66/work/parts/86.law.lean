/-! rows of the law's own level -/
section LAW86
variable {p : Program} {l : Launch} {e : Env} {R : Room} {s : State} {m : MethodId} {args : Array Value} {below : List Frame} {meth : Method} {c : Code} {Q : State → Prop} {nL : Nat} {H : Heap} {locs : List Loc} {k n : Nat} {pc : Nat} {L L' : List (Nat × Value)} {st : List Value} {cc : ByteArray} {own : String} {E : Nat → Nat → Nat}
theorem rm_law {Lc my k mc n ms cs : Nat} (h1 : (Nat.ble (Lc + 1) 2048 && Nat.ble (8 + (my + 11) + 60 * Lc) 94400 && Nat.ble cs 8) = true) (h2 : k + mc ≤ 683119) (h3 : n + ms ≤ 7044570) : (Nat.ble (Lc + 1) room_1.frames && Nat.ble (8 + (my + 11) + 60 * Lc) room_1.locals && Nat.ble (k + mc) room_1.cells && Nat.ble (n + ms) room_1.slots && Nat.ble cs 8) = true := by
  simp only [Bool.and_eq_true] at h1 ⊢
  exact ⟨⟨⟨⟨h1.1.1, h1.1.2⟩, Nat.ble_eq_true_of_le h2⟩, Nat.ble_eq_true_of_le h3⟩, h1.2⟩
theorem rm_law0 {Lc my k n cs : Nat} (h1 : (Nat.ble (Lc + 1) 2048 && Nat.ble (8 + (my + 11) + 60 * Lc) 94400 && Nat.ble cs 8) = true) (h2 : k ≤ 683119) (h3 : n ≤ 7044570) : (Nat.ble (Lc + 1) room_1.frames && Nat.ble (8 + (my + 11) + 60 * Lc) room_1.locals && Nat.ble k room_1.cells && Nat.ble n room_1.slots && Nat.ble cs 8) = true := rm_law (mc := 0) (ms := 0) h1 h2 h3
theorem rm_lawW {Lc my k mc n ms cs : Nat} (h1 : (Nat.ble (Lc + 1) 2048 && Nat.ble (8 + (my + 11) + 60 * Lc) 94400 && Nat.ble cs 8) = true) (h2 : k + mc ≤ 683119) (h3 : n + ms ≤ 7044570) : (Lc + 1 ≤ room_1.frames ∧ 8 + (my + 11) + 60 * Lc ≤ room_1.locals) ∧ (k + mc ≤ room_1.cells ∧ n + ms ≤ room_1.slots) ∧ cs ≤ 8 := by
  simp only [Bool.and_eq_true] at h1
  exact ⟨⟨Nat.le_of_ble_eq_true h1.1.1, Nat.le_of_ble_eq_true h1.1.2⟩, ⟨h2, h3⟩, Nat.le_of_ble_eq_true h1.2⟩
theorem rm_nw {k n N : Nat} (h2 : k + 1 ≤ 683119) (h3 : n + N ≤ 7044570) : (Nat.ble (k + 1) room_1.cells && Nat.ble (n + N) room_1.slots) = true := by
  rw [Bool.and_eq_true]
  exact ⟨Nat.ble_eq_true_of_le h2, Nat.ble_eq_true_of_le h3⟩
theorem shr_lt {a b : Nat} (h : a < 256) : a >>> b < 256 := Nat.lt_of_le_of_lt (Nat.shiftRight_le a b) h
theorem v_fcmp0 {x : UInt32} {op : CmpOp} (X : CF p m c cc nL s args own) (hx : FP.fcmp x x = some .eq) (hdg : decode cc pc = .ok (.fcmp op, 1)) (pc' : Nat) (hp : pc + 1 = pc') (kk : V p l e R s m args below meth c Q nL H locs k n pc' L (.int (zI 0) :: st)) : V p l e R s m args below meth c Q nL H locs k n pc L (.float x :: .float x :: st) := by
  subst hp
  exact fun ls hl => lv_fcmp X.1 X.2.1 hdg (by rw [hx]; exact kk ls hl)
end LAW86
set_option maxRecDepth 100000 in
theorem fcD_k : ∀ a : Fin 17, ∀ b : Fin 33, (b : Nat) = 0 ∨ FP.fcmp (fvD ((a : Nat) : Int) ((b : Nat) : Int)) (fvD ((a : Nat) : Int) ((b : Nat) : Int)) = some .eq := by decide +kernel
theorem fcD_ok {a b : Int} (a0 : 0 ≤ a) (a1 : a ≤ 16) (b0 : 1 ≤ b) (b1 : b ≤ 32) : FP.fcmp (fvD a b) (fvD a b) = some .eq := by
  have h := fcD_k ⟨a.toNat, by omega⟩ ⟨b.toNat, by omega⟩
  dsimp only at h
  rw [Int.toNat_of_nonneg a0, Int.toNat_of_nonneg (by omega)] at h
  exact h.elim (fun q => by omega) id
theorem c_J4_appKT (l : Launch) (E : Nat → Nat → Nat) (b : Nat) (v : Nat) (N : Nat) (f : Int → Int) (ml : Int) (n : Int) (z : Nat) (q : Nat) (T2 : List Int) (T : List Int) (hq : q < 13) (hk : kwT q = T2) (n2 : n + (T2.length : Int) ≤ 70) (hT : SBs f N n T) (hbz : b < z) (hd : b + 1 ≤ v ∨ v + 1 ≤ b) : Mu l yJ4_append_15ec4 cJ4_append_15ec4 2 (some (.object "java/lang/StringBuilder")) 5 1 70 E [(b, 1), (v, 1)] [.ref b, .ref (E 105 (35 + q))] (fun H => PR E b [(b, .inr (1, [.ref v, .int (zI 0), .int (zI ml), .int (zI n)]))] H ∧ PR E v [(v, .inl (E 102 2, N, .inl (zA f)))] H ∧ z ≤ H.size) (fun rv H => ∃ v1 : Nat, ∃ N1 : Nat, ∃ f1 : Int → Int, rv = some (.ref b) ∧ (v1 = v ∨ z ≤ v1) ∧ SBs f1 N1 (n + (T2.length : Int)) (T ++ T2) ∧ PR E b [(b, .inr (1, [.ref v1, .int (zI 0), .int (zI ml), .int (zI (n + (T2.length : Int)))]))] H ∧ PR E v1 [(v1, .inl (E 102 2, N1, .inl (zA f1)))] H) := by
  subst hk
  rw [← kw_len hq] at n2 ⊢
  have hkb := kwLen_b hq
  have hN := hT.1
  have hn := hT.2.1
  refine Mu.mono (c_J4_appendSK l E b v N f ml n z q hq hT.n0 hT.2.1 n2 (by omega) hT.1 hT.2.2.1 hbz hd) (fun H h => h) (fun rv H h => ?_)
  obtain ⟨v1, N1, f1, h1, h2, h3, h4, h5, h6, h7, h8, h9⟩ := h
  exact ⟨v1, N1, f1, h1, h2, ⟨h3, h4, h7, hT.2.2.2.cat h5 (kw_LT hq) h6⟩, h8, h9⟩
theorem c_J4_appK1 (l : Launch) (E : Nat → Nat → Nat) (b : Nat) (v : Nat) (N : Nat) (f : Int → Int) (ml : Int) (n : Int) (z : Nat) (q : Nat) (x : Int) (T : List Int) (hq : q < 13) (hk : kwT q = [x]) (n2 : n < 69) (hT : SBs f N n T) (hbz : b < z) (hd : b + 1 ≤ v ∨ v + 1 ≤ b) : Mu l yJ4_append_15ec4 cJ4_append_15ec4 2 (some (.object "java/lang/StringBuilder")) 5 1 70 E [(b, 1), (v, 1)] [.ref b, .ref (E 105 (35 + q))] (fun H => PR E b [(b, .inr (1, [.ref v, .int (zI 0), .int (zI ml), .int (zI n)]))] H ∧ PR E v [(v, .inl (E 102 2, N, .inl (zA f)))] H ∧ z ≤ H.size) (fun rv H => ∃ v1 : Nat, ∃ N1 : Nat, ∃ f1 : Int → Int, rv = some (.ref b) ∧ (v1 = v ∨ z ≤ v1) ∧ SBs f1 N1 (n + 1) (T ++ [x]) ∧ PR E b [(b, .inr (1, [.ref v1, .int (zI 0), .int (zI ml), .int (zI (n + 1))]))] H ∧ PR E v1 [(v1, .inl (E 102 2, N1, .inl (zA f1)))] H) := by
  exact c_J4_appKT l E b v N f ml n z q [x] T hq hk (by show n + 1 ≤ 70; omega) hT hbz hd
theorem c_J4_appO (l : Launch) (E : Nat → Nat → Nat) (b : Nat) (v : Nat) (N : Nat) (f : Int → Int) (ml : Int) (n : Int) (z : Nat) (o u M : Nat) (g : Int → Int) (T : List Int) (T2 : List Int) (M1 : M < 1000) (hg : ∀ j : Int, 0 ≤ g j ∧ g j < 128) (n2 : n + (M : Int) ≤ 70) (n3 : n + (M : Int) ≤ 34) (hT2 : LT g (M : Int) T2) (hT : SBs f N n T) (hbz : b < z) (hd : b + 1 ≤ v ∨ v + 1 ≤ b) (d1 : b + 1 ≤ o ∨ o + 1 ≤ b) (d2 : b + 1 ≤ u ∨ u + 1 ≤ b) (d3 : v + 1 ≤ o ∨ o + 1 ≤ v) (d4 : v + 1 ≤ u ∨ u + 1 ≤ v) : Mu l yJ4_append_15ec4 cJ4_append_15ec4 2 (some (.object "java/lang/StringBuilder")) 5 1 70 E [(b, 1), (v, 1)] [.ref b, .ref o] (fun H => PR E b [(b, .inr (1, [.ref v, .int (zI 0), .int (zI ml), .int (zI n)]))] H ∧ PR E v [(v, .inl (E 102 2, N, .inl (zA f)))] H ∧ PR E o [(o, .inr (0, [.ref u, .int (zI 0), .int (zI 0), .int (zI 0)]))] H ∧ PR E u [(u, .inl (E 102 2, M, .inl (zA g)))] H ∧ z ≤ H.size) (fun rv H => ∃ v1 : Nat, ∃ N1 : Nat, ∃ f1 : Int → Int, rv = some (.ref b) ∧ (v1 = v ∨ z ≤ v1) ∧ SBs f1 N1 (n + (M : Int)) (T ++ T2) ∧ PR E b [(b, .inr (1, [.ref v1, .int (zI 0), .int (zI ml), .int (zI (n + (M : Int)))]))] H ∧ PR E v1 [(v1, .inl (E 102 2, N1, .inl (zA f1)))] H) := by
  have hN := hT.1
  have hn := hT.2.1
  have hn0 := hT.n0
  refine Mu.mono (c_J4_appendSO l E b v N f ml n z o u M g M1 hg hT.n0 hT.2.1 n2 (by omega) hT.1 hT.2.2.1 hbz hd d1 d2 d3 d4) (fun H h => h) (fun rv H h => ?_)
  obtain ⟨v1, N1, f1, h1, h2, h3, h4, h5, h6, h7, h8, h9⟩ := h
  exact ⟨v1, N1, f1, h1, h2, ⟨h3, h4, h7, hT.2.2.2.cat h5 hT2 h6⟩, h8, h9⟩
theorem nmT_1 {x : Int} (h : x < 10) : nmT x = [48 + x] := if_pos h
theorem clT_len (co : Nat → Int → Int) (x : Int) : (clT co x).length ≤ 1 := by
  unfold clT
  split
  · exact Nat.le_refl _
  · exact Nat.zero_le _
theorem hdT_len {co : Nat → Int → Int} {x : Int} (h : x < 10) : (hdT co x).length ≤ 7 := by
  have g := clT_len co x
  unfold hdT
  rw [nmT_1 h]
  simp only [List.length_append, List.length_cons, List.length_nil]
  omega
theorem lnT_len {co : Nat → Int → Int} {x : Int} (h : x < 10) : ∀ i : Nat, (lnT co x i).length ≤ 7 + 5 * i
  | 0 => hdT_len h
  | i + 1 => by
    have g := lnT_len (co := co) h i
    show (tsT (lnT co x i) co x (co 7 (x * 6 + (i : Int)))).length ≤ _
    unfold tsT
    simp only [List.length_append, List.length_cons, List.length_nil]
    omega
theorem hdT_of {co : Nat → Int → Int} {x : Int} (h : x < 10) : hdT co x = [] ++ [48 + x] ++ [58] ++ [48 + co 1 x] ++ [47] ++ [48 + co 2 x] ++ [phT co x] ++ clT co x := by
  unfold hdT
  rw [nmT_1 h, List.nil_append]
theorem tsT_of {T : List Int} {co : Nat → Int → Int} {x y : Int} : tsT T co x y = [] ++ T ++ [32] ++ [sgT co x y] ++ [48 + y] ++ [42] ++ [48 + co 9 (x * 8 + y)] := by
  rw [List.nil_append]
  rfl
