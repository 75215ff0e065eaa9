/-! the run's numbers E: E 100 the classes, E k the slots of class k; E 101 0 the first address of ours; E 102 the classes of the rows; E 103 the constants of Fault -/
abbrev zD (E : Nat → Nat → Nat) : va_G := (E 100, E)
abbrev z0 (E : Nat → Nat → Nat) : Nat := E 101 0
abbrev tysA (E : Nat → Nat → Nat) : List (ClassId × FieldType) := [(E 102 0, .int), (E 102 0, .int), (E 102 2, .byte), (E 102 3, .object "CaseManager$Court")]
abbrev PW (E : Nat → Nat → Nat) (ws : va_W) (H : Heap) : Prop := va_P (zD E) vwCl ws H
theorem isNest_tabs : ∀ w : Cond, isNest w = true → w.onTables = true := by
  intro w h
  cases w <;> first | rfl | cases h
theorem isNest_warm : ∀ {w : Cond} {s U : State}, isNest w = true → s.WarmedH U.vm → va_Nw w s → va_Nw w U := by
  intro w s U h hW hZ
  cases w <;> first | exact va_Nw.warmF hW hZ | exact va_Nw.warmM hW hZ | exact va_Nw.warmC hW hZ | cases h
/-- what the tables say -/
def Kx (E : Nat → Nat → Nat) (U : State) : Prop := va_K (zD E) vwCl (tysA E) U ∧ ∀ w ∈ WN, va_Nw w U
theorem Kx.warm {E : Nat → Nat → Nat} {s U : State} (hW : s.WarmedH U.vm) (h : Kx E s) : Kx E U := ⟨h.1.moved hW.alike, fun w hw => isNest_warm (List.mem_filter.mp hw).2 hW (h.2 w hw)⟩
theorem Kx.same {E : Nat → Nat → Nat} {s U : State} (hv : s.vm = U.vm) (h : Kx E s) : Kx E U := ⟨h.1.moved (by rw [hv]; exact Vm.Alike.refl _), fun w hw => va_Nw.same (isNest_tabs w (List.mem_filter.mp hw).2) hv (h.2 w hw)⟩
/-- the static fields that are read: none of them is written -/
abbrev Az (E : Nat → Nat → Nat) : Nat → Prop := fun q => z0 E ≤ q
def flt (k : Nat) : String := match k with
  | 0 => "NONE"
  | 1 => "INDEX"
  | 2 => "ARGUMENT"
  | 3 => "ELEMENT"
  | _ => "STATE"
def Sx (E : Nat → Nat → Nat) (U : State) (H : Heap) : Prop :=
  ((∀ k, k < 5 → va_Z "CaseManager$Fault" (flt k) "LCaseManager$Fault;" (.ref (E 103 k)) (Az E) U H) ∧ (∀ j k, j < 5 → k < 5 → E 103 j = E 103 k → j = k)) ∧
  (vx_Zq Bundle.tN "UNASSIGNED_STACK" Bundle.steD (Az E) U H ∧ vx_Zq Bundle.tN "SUPPRESSED_SENTINEL" Bundle.listD (Az E) U H)
theorem Sx.moved {E : Nat → Nat → Nat} {s U : State} {H : Heap} (hvm : s.vm.Alike U.vm) (h : Sx E s H) : Sx E U H :=
  ⟨⟨fun k hk => (h.1.1 k hk).moved hvm, h.1.2⟩, h.2.1.moved hvm, h.2.2.moved hvm⟩
theorem Sx.kept {E : Nat → Nat → Nat} {s : State} {H H1 : Heap} (h : Sx E s H) (hq : ∀ a : Nat, a < H.size → ¬ Az E a → H1[a]? = H[a]?) : Sx E s H1 :=
  ⟨⟨fun k hk => (h.1.1 k hk).kept hq, h.1.2⟩, h.2.1.kept hq, h.2.2.kept hq⟩
/-- the words of declared methods -/
def isDecl : Cond → Bool
  | .declares _ => true
  | _ => false
def WD : List Cond := lw_tbl.filter isDecl
theorem isDecl_tabs : ∀ w : Cond, isDecl w = true → w.onTables = true := by
  intro w h
  cases w <;> first | rfl | cases h
theorem isDecl_warm {s U : State} (hW : s.vm.Alike U.vm) {w : Cond} (h : isDecl w = true) (hZ : va_Nw w s) : va_Nw w U := by
  cases w <;> first | exact va_tabs rfl (rfl : (s.setVm U.vm).vm = U.vm) (by rw [Cond.declares_setVm hW]; exact hZ) | cases h
/-- the exceptions that the law catches -/
def XN : List String := ["java/lang/IllegalArgumentException", "java/lang/IllegalStateException", "java/lang/IndexOutOfBoundsException", "java/util/NoSuchElementException"]
def SR : List (String × Nat × String) := [("CaseManager", 382, "no such case or witness"), ("CaseManager", 382, "no such case or witness"), ("CaseManager", 382, "no such case or witness"), ("CaseManager", 382, "no such case or witness"), ("CaseManager", 382, "no such case or witness"), ("CaseManager", 382, "no such case or witness"), ("CaseManager", 382, "no such case or witness"), ("CaseManager", 382, "no such case or witness"), ("CaseManager", 387, "an argument is out of range"), ("CaseManager", 392, "the witness has not testified in the case"), ("CaseManager", 397, "the court's state does not allow this"), ("CaseManager", 87, "no such defendant or offence"), ("CaseManager", 98, "no case for this defendant and this offence"), ("CaseManager", 420, "no such case"), ("CaseManager", 124, "an open case has no verdict"), ("CaseManager", 136, "no testimony at this position"), ("CaseManager", 425, "no such witness"), ("CaseManager", 172, "no witness has this rank"), ("CaseManager", 199, "nobody has testified in the case"), ("CaseManager", 215, "no case could be decided now"), ("CaseManager", 230, "no number of firm answers is enough"), ("CaseManager", 429, "no such defendant"), ("CaseManager", 247, "the docket has no such position"), ("CaseManager", 252, "the case is not open"), ("CaseManager", 269, "there are no witnesses"), ("CaseManager", 275, "no case is decided or closed"), ("CaseManager", 310, "the line has no such index"), ("CaseManager", 382, "no such case or witness"), ("CaseManager", 382, "no such case or witness"), ("CaseManager", 382, "no such case or witness"), ("CaseManager", 382, "no such case or witness"), ("CaseManager", 382, "no such case or witness"), ("CaseManager", 382, "no such case or witness"), ("CaseManager", 382, "no such case or witness"), ("CaseManager", 382, "no such case or witness"), ("CaseManagerLaw", 159, ":"), ("CaseManagerLaw", 164, "/"), ("CaseManagerLaw", 166, "o"), ("CaseManagerLaw", 168, "g"), ("CaseManagerLaw", 170, "n"), ("CaseManagerLaw", 175, "."), ("CaseManagerLaw", 177, ""), ("CaseManagerLaw", 217, " "), ("CaseManagerLaw", 219, "+"), ("CaseManagerLaw", 221, "-"), ("CaseManagerLaw", 223, "*"), ("CaseManagerLaw", 253, "w"), ("CaseManagerLaw", 255, "=")]
def kwL : List Nat := [1, 1, 1, 1, 1, 1, 0, 1, 1, 1, 1, 1, 1]
def kwB : List (List Int32) := [[58], [47], [111], [103], [110], [46], [], [32], [43], [45], [42], [119], [61]]
/-- the digits of the numbers below 100, as Integer keeps them -/
def Dg (E : Nat → Nat → Nat) (U : State) (H : Heap) : Prop := ∀ k, k < 2 → va_Z "java/lang/Integer" (if k = 0 then "DigitOnes" else "DigitTens") "[B" (.ref (E 104 k)) (Az E) U H ∧ ¬ Az E (E 104 k) ∧ ∃ cell : Cell, H[E 104 k]? = some cell ∧ U.isArrayOf cell .byte ∧ cell.vm ≠ .unknown ∧ ∀ j : Nat, j < 100 → cell.slots[j]? = some (.int (zI (48 + (if k = 0 then (j : Int) % 10 else (j : Int) / 10))))
theorem Dg.moved {E : Nat → Nat → Nat} {s U : State} {H : Heap} (hvm : s.vm.Alike U.vm) (h : Dg E s H) : Dg E U H := fun k hk => by
  obtain ⟨h1, h2, cell, h3, h4, h5, h6⟩ := h k hk
  exact ⟨h1.moved hvm, h2, cell, h3, State.isArrayOf_alike hvm h4, h5, h6⟩
theorem Dg.kept {E : Nat → Nat → Nat} {s : State} {H H1 : Heap} (h : Dg E s H) (hq : ∀ a : Nat, a < H.size → ¬ Az E a → H1[a]? = H[a]?) : Dg E s H1 := fun k hk => by
  obtain ⟨h1, h2, cell, h3, h4, h5, h6⟩ := h k hk
  exact ⟨h1.kept hq, h2, cell, by rw [hq _ (Array.getElem?_eq_some_iff.mp h3).1 h2]; exact h3, h4, h5, h6⟩
/-- the private methods of AbstractStringBuilder, called on a StringBuilder -/
def SelP (U : State) : Prop := ∀ y ∈ [yJ5_ensureCapacityInternal_d00df, yJ5_newCapacity_0f7a4, yJ5_putStringAt_47b60, yJ5_inflateIfNeededFor_a7421], va_Nw (.selects RJ4 y y) U
theorem SelP.warm {s U : State} (hW : s.WarmedH U.vm) (h : SelP s) : SelP U := fun y hy => word_at hW (Or.inl rfl) (h y hy)
theorem SelP.same {s U : State} (hv : s.vm = U.vm) (h : SelP s) : SelP U := fun y hy => va_Nw.same rfl hv (h y hy)
/-- the script: it stands below what is ours -/
def SX (E : Nat → Nat → Nat) (U : State) (H : Heap) : Prop := va_T .int (E 107 0) (E 107 1) (fun j => .int (zI ((E 108 j : Nat) : Int))) (Az E) U H ∧ E 107 1 ≤ 260
theorem SX.moved {E : Nat → Nat → Nat} {s U : State} {H : Heap} (hvm : s.vm.Alike U.vm) (h : SX E s H) : SX E U H := ⟨h.1.moved hvm, h.2⟩
theorem SX.kept {E : Nat → Nat → Nat} {s : State} {H H1 : Heap} (h : SX E s H) (hq : ∀ a : Nat, a < H.size → ¬ Az E a → H1[a]? = H[a]?) : SX E s H1 := ⟨h.1.kept hq, h.2⟩
def Ux (E : Nat → Nat → Nat) (U : State) (H : Heap) : Prop :=
  (va_AO "CaseManager$Court" U ∧ va_Z "java/lang/String" "COMPACT_STRINGS" "Z" (.int 1) (Az E) U H ∧ va_Zq "jdk/internal/util/Preconditions" "SIOOBE_FORMATTER" "Ljava/util/function/BiFunction;" (Az E) U H ∧ SelP U) ∧
  (vk_S 13 kwL kwB (fun i => E 105 (35 + i)) (E 106) (Az E) U H ∧ (∀ i r, SR[i]? = some r → vk_R r.1 r.2.1 r.2.2 (E 105 i) U)) ∧ Dg E U H ∧ (∀ (i j : Nat) (x y : String), i ≠ j → XN[i]? = some x → XN[j]? = some y → va_Nc x y U) ∧ (∀ w ∈ WD, va_Nw w U) ∧ SX E U H
theorem Ux.warm {E : Nat → Nat → Nat} {s U : State} {H : Heap} (hW : s.WarmedH U.vm) (h : Ux E s H) : Ux E U H :=
  ⟨⟨h.1.1.moved hW.alike, h.1.2.1.moved hW.alike, h.1.2.2.1.moved hW.alike, h.1.2.2.2.warm hW⟩, ⟨h.2.1.1.moved hW.alike, fun i r hr => (h.2.1.2 i r hr).warm hW⟩, h.2.2.1.moved hW.alike, fun i j x y hij hx hy => (h.2.2.2.1 i j x y hij hx hy).moved hW.alike, ⟨fun w hw => isDecl_warm hW.alike (List.mem_filter.mp hw).2 (h.2.2.2.2.1 w hw), h.2.2.2.2.2.moved hW.alike⟩⟩
theorem Ux.same {E : Nat → Nat → Nat} {s U : State} {H : Heap} (hv : s.vm = U.vm) (h : Ux E s H) : Ux E U H := by
  have ha : s.vm.Alike U.vm := by rw [hv]; exact Vm.Alike.refl _
  exact ⟨⟨h.1.1.moved ha, h.1.2.1.moved ha, h.1.2.2.1.moved ha, h.1.2.2.2.same hv⟩, ⟨h.2.1.1.moved ha, fun i r hr => (h.2.1.2 i r hr).same hv.symm⟩, h.2.2.1.moved ha, fun i j x y hij hx hy => (h.2.2.2.1 i j x y hij hx hy).moved ha, ⟨fun w hw => isDecl_warm ha (List.mem_filter.mp hw).2 (h.2.2.2.2.1 w hw), h.2.2.2.2.2.moved ha⟩⟩
theorem Ux.kept {E : Nat → Nat → Nat} {s : State} {H H1 : Heap} (h : Ux E s H) (hq : ∀ a : Nat, a < H.size → ¬ Az E a → H1[a]? = H[a]?) : Ux E s H1 :=
  ⟨⟨h.1.1, h.1.2.1.kept hq, h.1.2.2.1.kept hq, h.1.2.2.2⟩, ⟨h.2.1.1.kept hq, h.2.1.2⟩, h.2.2.1.kept hq, h.2.2.2.1, h.2.2.2.2.1, h.2.2.2.2.2.kept hq⟩
/-- tables and statics over a heap -/
def Cx (E : Nat → Nat → Nat) (U : State) (H : Heap) : Prop := z0 E ≤ H.size ∧ Kx E U ∧ Sx E U H ∧ Ux E U H
theorem Cx.warm {E : Nat → Nat → Nat} {s U : State} {H : Heap} (hW : s.WarmedH U.vm) (h : Cx E s H) : Cx E U H := ⟨h.1, h.2.1.warm hW, h.2.2.1.moved hW.alike, h.2.2.2.warm hW⟩
theorem Cx.same {E : Nat → Nat → Nat} {s U : State} {H : Heap} (hv : s.vm = U.vm) (h : Cx E s H) : Cx E U H := ⟨h.1, h.2.1.same hv, h.2.2.1.moved (by rw [hv]; exact Vm.Alike.refl _), h.2.2.2.same hv⟩
theorem Cx.kept {E : Nat → Nat → Nat} {s : State} {H H1 : Heap} (h : Cx E s H) (hz : H.size ≤ H1.size) (hq : ∀ a : Nat, a < H.size → ¬ Az E a → H1[a]? = H[a]?) : Cx E s H1 := ⟨Nat.le_trans h.1 hz, h.2.1, h.2.2.1.kept hq, h.2.2.2.kept hq⟩
theorem Cx.K {E : Nat → Nat → Nat} {s : State} {H : Heap} (h : Cx E s H) : va_K (zD E) vwCl (tysA E) s := h.2.1.1
theorem Cx.nest {E : Nat → Nat → Nat} {s : State} {H : Heap} (h : Cx E s H) {w : Cond} (hw : w ∈ WN) {args : Array Value} : w.before args s = true := va_Nw.use (isNest_tabs w (List.mem_filter.mp hw).2) (h.2.1.2 w hw)
/-- a method's room at a level -/
abbrev rmL (Lv mc ms : Nat) : Room := { frames := Lv, cells := mc, slots := ms, locals := 60 * Lv }
/-- the method as it stands: the machine, its code, its locals, its class, the words -/
abbrev CF (p : Program) (m : MethodId) (c : Code) (cc : ByteArray) (nL : Nat) (s : State) (args : Array Value) (own : String) : Prop := CallFix p m c cc nL s args WA own
/-- W over any locals that hold the listed values -/
def V (p : Program) (l : Launch) (e : Env) (R : Room) (s : State) (m : MethodId) (args : Array Value) (below : List Frame) (meth : Method) (c : Code) (Q : State → Prop) (nL : Nat) (H : Heap) (locs : List Loc) (k n : Nat) (pc : Nat) (L : List (Nat × Value)) (st : List Value) : Prop :=
  ∀ ls : Array Slot, lv_has ls nL L → W p l e R s m args below meth c H locs k n Q (F0 m pc ls st)

