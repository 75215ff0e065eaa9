/-! the run's numbers E: E 100 the classes, E k the slots of class k; E 101 0 the first address of ours; E 102 the classes of the rows; E 103 the constants of Fault -/
abbrev zD (E : Nat → Nat → Nat) : va_G := (E 100, E)
abbrev z0 (E : Nat → Nat → Nat) : Nat := E 101 0
abbrev tysA (E : Nat → Nat → Nat) : List (ClassId × FieldType) := [(E 102 0, .int), (E 102 1, .char), (E 102 2, .byte), (E 102 3, .object "CaseManager$Court"), (E 102 4, .long), (E 102 5, .double)]
abbrev PW (E : Nat → Nat → Nat) (ws : va_W) (H : Heap) : Prop := va_P (zD E) vwCl ws H
/-- the words of nest mates -/
def isNest : Cond → Bool
  | .fieldLinkNest .. => true
  | .methodLinkNest .. => true
  | _ => false
theorem isNest_tabs : ∀ w : Cond, isNest w = true → w.onTables = true := by
  intro w h
  cases w <;> first | rfl | cases h
theorem isNest_warm : ∀ {w : Cond} {s U : State}, isNest w = true → s.WarmedH U.vm → va_Nw w s → va_Nw w U := by
  intro w s U h hW hZ
  cases w <;> first | exact va_Nw.warmF hW hZ | exact va_Nw.warmM hW hZ | cases h
def WN : List Cond := lw_tbl.filter isNest
theorem WN_of {i : Nat} {w : Cond} (h : lw_tbl[i]? = some w) (g : isNest w = true) : w ∈ WN := List.mem_filter.mpr ⟨List.mem_of_getElem? h, g⟩
/-- what the tables say -/
def Kx (E : Nat → Nat → Nat) (U : State) : Prop := va_K (zD E) vwCl (tysA E) U ∧ ∀ w ∈ WN, va_Nw w U
theorem Kx.warm {E : Nat → Nat → Nat} {s U : State} (hW : s.WarmedH U.vm) (h : Kx E s) : Kx E U := ⟨h.1.moved hW.alike, fun w hw => isNest_warm (List.mem_filter.mp hw).2 hW (h.2 w hw)⟩
theorem Kx.same {E : Nat → Nat → Nat} {s U : State} (hv : s.vm = U.vm) (h : Kx E s) : Kx E U := ⟨h.1.moved (by rw [hv]; exact Vm.Alike.refl _), fun w hw => va_Nw.same (isNest_tabs w (List.mem_filter.mp hw).2) hv (h.2 w hw)⟩
/-- the static fields that are read: none of them is written -/
abbrev Az (E : Nat → Nat → Nat) : Nat → Prop := fun q => z0 E ≤ q
def flt (k : Nat) : String := match k with
  | 0 => "NONE"
  | 1 => "INDEX"
  | 2 => "ARGUMENT"
  | 3 => "ELEMENT"
  | _ => "STATE"
def Sx (E : Nat → Nat → Nat) (U : State) (H : Heap) : Prop :=
  ((∀ k, k < 5 → va_Z "CaseManager$Fault" (flt k) "LCaseManager$Fault;" (.ref (E 103 k)) (Az E) U H) ∧ (∀ j k, j < 5 → k < 5 → E 103 j = E 103 k → j = k)) ∧
  (vx_Zq Bundle.tN "UNASSIGNED_STACK" Bundle.steD (Az E) U H ∧ vx_Zq Bundle.tN "SUPPRESSED_SENTINEL" Bundle.listD (Az E) U H)
theorem Sx.moved {E : Nat → Nat → Nat} {s U : State} {H : Heap} (hvm : s.vm.Alike U.vm) (h : Sx E s H) : Sx E U H :=
  ⟨⟨fun k hk => (h.1.1 k hk).moved hvm, h.1.2⟩, h.2.1.moved hvm, h.2.2.moved hvm⟩
theorem Sx.kept {E : Nat → Nat → Nat} {s : State} {H H1 : Heap} (h : Sx E s H) (hq : ∀ a : Nat, a < H.size → ¬ Az E a → H1[a]? = H[a]?) : Sx E s H1 :=
  ⟨⟨fun k hk => (h.1.1 k hk).kept hq, h.1.2⟩, h.2.1.kept hq, h.2.2.kept hq⟩
/-- tables and statics over a heap -/
def Cx (E : Nat → Nat → Nat) (U : State) (H : Heap) : Prop := z0 E ≤ H.size ∧ Kx E U ∧ Sx E U H
theorem Cx.warm {E : Nat → Nat → Nat} {s U : State} {H : Heap} (hW : s.WarmedH U.vm) (h : Cx E s H) : Cx E U H := ⟨h.1, h.2.1.warm hW, h.2.2.moved hW.alike⟩
theorem Cx.same {E : Nat → Nat → Nat} {s U : State} {H : Heap} (hv : s.vm = U.vm) (h : Cx E s H) : Cx E U H := ⟨h.1, h.2.1.same hv, h.2.2.moved (by rw [hv]; exact Vm.Alike.refl _)⟩
theorem Cx.kept {E : Nat → Nat → Nat} {s : State} {H H1 : Heap} (h : Cx E s H) (hz : H.size ≤ H1.size) (hq : ∀ a : Nat, a < H.size → ¬ Az E a → H1[a]? = H[a]?) : Cx E s H1 := ⟨Nat.le_trans h.1 hz, h.2.1, h.2.2.kept hq⟩
theorem Cx.K {E : Nat → Nat → Nat} {s : State} {H : Heap} (h : Cx E s H) : va_K (zD E) vwCl (tysA E) s := h.2.1.1
theorem Cx.nest {E : Nat → Nat → Nat} {s : State} {H : Heap} (h : Cx E s H) {w : Cond} (hw : w ∈ WN) {args : Array Value} : w.before args s = true := va_Nw.use (isNest_tabs w (List.mem_filter.mp hw).2) (h.2.1.2 w hw)
/-- a method's room at a level -/
abbrev rmL (Lv mc ms : Nat) : Room := { frames := Lv, cells := mc, slots := ms, locals := 60 * Lv }
/-- the method as it stands: the machine, its code, its locals, its class, the words -/
abbrev CF (p : Program) (m : MethodId) (c : Code) (cc : ByteArray) (nL : Nat) (s : State) (args : Array Value) (own : String) : Prop := CallFix p m c cc nL s args WA own
/-- W over any locals that hold the listed values -/
def V (p : Program) (l : Launch) (e : Env) (R : Room) (s : State) (m : MethodId) (args : Array Value) (below : List Frame) (meth : Method) (c : Code) (Q : State → Prop) (nL : Nat) (H : Heap) (locs : List Loc) (k n : Nat) (pc : Nat) (L : List (Nat × Value)) (st : List Value) : Prop :=
  ∀ ls : Array Slot, lv_has ls nL L → W p l e R s m args below meth c H locs k n Q (F0 m pc ls st)
