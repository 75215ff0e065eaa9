/-! sets of witnesses as numbers below 256 -/
set_option maxRecDepth 100000 in
theorem or_k : ∀ a b : Fin 256, zI ((a : Nat) : Int) ||| zI ((b : Nat) : Int) = zI ((((a : Nat) ||| (b : Nat) : Nat)) : Int) := by decide +kernel
set_option maxRecDepth 100000 in
theorem and_k : ∀ a b : Fin 256, zI ((a : Nat) : Int) &&& zI ((b : Nat) : Int) = zI ((((a : Nat) &&& (b : Nat) : Nat)) : Int) := by decide +kernel
set_option maxRecDepth 100000 in
theorem shl_k : ∀ w : Fin 8, zI 1 <<< (zI ((w : Nat) : Int) &&& 31) = zI (((2 ^ (w : Nat) : Nat)) : Int) := by decide +kernel
set_option maxRecDepth 100000 in
theorem shr_k : ∀ a : Fin 256, ∀ w : Fin 8, zI ((a : Nat) : Int) >>> (zI ((w : Nat) : Int) &&& 31) = zI ((((a : Nat) >>> (w : Nat) : Nat)) : Int) := by decide +kernel
theorem pow8 {w : Nat} (h : w < 8) : 2 ^ w < 256 := by
  have : 2 ^ w ≤ 2 ^ 7 := Nat.pow_le_pow_right (by decide) (by omega)
  omega
theorem or8 {a b : Nat} (ha : a < 256) (hb : b < 256) : a ||| b < 256 := Nat.or_lt_two_pow (n := 8) ha hb
theorem and8 {a b : Nat} (ha : a < 256) : a &&& b < 256 := Nat.lt_of_le_of_lt Nat.and_le_left ha
section BITR
variable {p : Program} {l : Launch} {e : Env} {R : Room} {s : State} {m : MethodId} {args : Array Value} {below : List Frame} {meth : Method} {c : Code} {Q : State → Prop} {nL : Nat} {H : Heap} {locs : List Loc} {k n : Nat} {pc : Nat} {L L' : List (Nat × Value)} {st : List Value} {cc : ByteArray} {own : String} {E : Nat → Nat → Nat}
theorem v_ior8 {a b : Nat} (X : CF p m c cc nL s args own) (ha : a < 256) (hb : b < 256) (hdg : decode cc pc = .ok (.ior, 1)) (pc' : Nat) (hp : pc + 1 = pc') (kk : V p l e R s m args below meth c Q nL H locs k n pc' L (.int (zI ((a ||| b : Nat) : Int)) :: st)) : V p l e R s m args below meth c Q nL H locs k n pc L (.int (zI ((b : Nat) : Int)) :: .int (zI ((a : Nat) : Int)) :: st) := by
  subst hp
  exact fun ls hl => lv_ior X.1 X.2.1 hdg (by rw [or_k ⟨a, ha⟩ ⟨b, hb⟩]; exact kk ls hl)
theorem v_iand8 {a b : Nat} (X : CF p m c cc nL s args own) (ha : a < 256) (hb : b < 256) (hdg : decode cc pc = .ok (.iand, 1)) (pc' : Nat) (hp : pc + 1 = pc') (kk : V p l e R s m args below meth c Q nL H locs k n pc' L (.int (zI ((a &&& b : Nat) : Int)) :: st)) : V p l e R s m args below meth c Q nL H locs k n pc L (.int (zI ((b : Nat) : Int)) :: .int (zI ((a : Nat) : Int)) :: st) := by
  subst hp
  exact fun ls hl => lv_iand X.1 X.2.1 hdg (by rw [and_k ⟨a, ha⟩ ⟨b, hb⟩]; exact kk ls hl)
theorem v_ishl8 {w : Int} (X : CF p m c cc nL s args own) (h0 : 0 ≤ w) (h1 : w < 8) (hdg : decode cc pc = .ok (.ishl, 1)) (pc' : Nat) (hp : pc + 1 = pc') (kk : V p l e R s m args below meth c Q nL H locs k n pc' L (.int (zI ((2 ^ w.toNat : Nat) : Int)) :: st)) : V p l e R s m args below meth c Q nL H locs k n pc L (.int (zI w) :: .int (zI 1) :: st) := by
  subst hp
  have e := shl_k ⟨w.toNat, by omega⟩
  dsimp only at e
  rw [Int.toNat_of_nonneg h0] at e
  exact fun ls hl => lv_ishl X.1 X.2.1 hdg (by rw [e]; exact kk ls hl)
theorem v_ishr8 {a : Nat} {w : Int} (X : CF p m c cc nL s args own) (ha : a < 256) (h0 : 0 ≤ w) (h1 : w < 8) (hdg : decode cc pc = .ok (.ishr, 1)) (pc' : Nat) (hp : pc + 1 = pc') (kk : V p l e R s m args below meth c Q nL H locs k n pc' L (.int (zI ((a >>> w.toNat : Nat) : Int)) :: st)) : V p l e R s m args below meth c Q nL H locs k n pc L (.int (zI w) :: .int (zI ((a : Nat) : Int)) :: st) := by
  subst hp
  have e := shr_k ⟨a, ha⟩ ⟨w.toNat, by omega⟩
  dsimp only at e
  rw [Int.toNat_of_nonneg h0] at e
  exact fun ls hl => lv_ishr X.1 X.2.1 hdg (by rw [e]; exact kk ls hl)
end BITR
def hrS (co : Nat → Int → Int) (k : Int) : Nat → Nat
  | 0 => 0
  | n + 1 => hrS co k n ||| 2 ^ (co 7 (k * 6 + (n : Int))).toNat
def psS (co : Nat → Int → Int) (s : Nat) : Nat → Nat
  | 0 => s
  | k + 1 => psS co s k ||| (if psS co s k &&& hrS co (k : Int) (co 6 (k : Int)).toNat = 0 then 0 else hrS co (k : Int) (co 6 (k : Int)).toNat)
def gpS (co : Nat → Int → Int) (w : Nat) : Nat → Nat
  | 0 => 2 ^ w
  | r + 1 => psS co (gpS co w r) (co 0 0).toNat
theorem hrS_lt {co : Nat → Int → Int} (hO : OkC co) (k : Int) : ∀ n, hrS co k n < 256
  | 0 => by unfold hrS; decide
  | n + 1 => by
    have := hO.b7 (k * 6 + (n : Int))
    exact or8 (hrS_lt hO k n) (pow8 (by omega))
theorem psS_lt {co : Nat → Int → Int} (hO : OkC co) {s : Nat} (hs : s < 256) : ∀ k, psS co s k < 256
  | 0 => hs
  | k + 1 => by
    refine or8 (psS_lt hO hs k) ?_
    split
    · decide
    · exact hrS_lt hO _ _
theorem gpS_lt {co : Nat → Int → Int} (hO : OkC co) {w : Nat} (hw : w < 8) : ∀ r, gpS co w r < 256
  | 0 => pow8 hw
  | r + 1 => psS_lt hO (gpS_lt hO hw r) _
def m0 : Nat → Int → Int := fun r => if r = 0 then updZ (updZ (fun _ => 0) 11 (-1)) 12 (-1) else fun _ => 0
