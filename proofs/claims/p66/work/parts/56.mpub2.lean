theorem updC_id (c : Nat → Int → Int) (r : Nat) (i : Int) : updC c r (updZ (c r) i (c r i)) = c := by
  funext q j
  by_cases h : q = r
  · subst h
    rw [updC_at]
    unfold updZ
    split
    · rename_i e
      rw [e]
    · rfl
  · rw [updC_ne _ _ h]
def rkD (co : Nat → Int → Int) (k : Int) : Int := sumZ (fun j => bz (co 3 j = 0 ∧ cbC co j k)) (co 0 0).toNat
theorem rkD_b (co : Nat → Int → Int) (k : Int) : 0 ≤ rkD co k ∧ rkD co k ≤ (co 0 0).toNat := cnt_b (fun j => co 3 j = 0 ∧ cbC co j k) _
def dpC (co : Nat → Int → Int) (q : Int) : Int := firstZ (fun j => co 3 j = 0 ∧ rkD co j = q) (co 0 0).toNat
theorem dpC_b (co : Nat → Int → Int) (q : Int) : -1 ≤ dpC co q ∧ (dpC co q < (co 0 0).toNat ∨ dpC co q = -1) := firstZ_b (fun j => co 3 j = 0 ∧ rkD co j = q) _
def ndF (co : Nat → Int → Int) : Nat → Int
  | 0 => -1
  | n + 1 => if co 3 (n : Int) = 0 ∧ 0 < co 6 (n : Int) ∧ (ndF co n < 0 ∨ rkD co (n : Int) < rkD co (ndF co n)) then (n : Int) else ndF co n
theorem ndF_s (co : Nat → Int → Int) (n : Nat) : ndF co (n + 1) = if co 3 (n : Int) = 0 ∧ 0 < co 6 (n : Int) ∧ (ndF co n < 0 ∨ rkD co (n : Int) < rkD co (ndF co n)) then (n : Int) else ndF co n := rfl
theorem ndF_b (co : Nat → Int → Int) : ∀ n : Nat, -1 ≤ ndF co n ∧ (ndF co n < n)
  | 0 => by unfold ndF; omega
  | n + 1 => by
    have := ndF_b co n
    rw [ndF_s]
    split <;> omega
theorem agF {co : Nat → Int → Int} (hO : OkC co) (h : TsI co) {k w : Int} (h0 : 0 ≤ k) (h1 : k < co 0 0) (w0 : 0 ≤ w) (w1 : w < 8) : (swC co k w < 0 → co 8 (k * 8 + w) = 0) ∧ (0 ≤ swC co k w → sdC co k (swC co k w) = co 8 (k * 8 + w) ∧ (co 8 (k * 8 + w) = 1 ∨ co 8 (k * 8 + w) = -1)) := by
  have hb := hO.b0
  have hs := swC_iff hO h h0 h1 w0 w1
  refine ⟨fun q => (h.2.2.2 k w h0 (by omega) w0 w1 (by omega)).1, fun q => ⟨by unfold sdC; rw [swC_at q], h.sw h0 (by omega) w0 w1 (hs.mp q)⟩⟩
theorem gcM {co : Nat → Int → Int} (hO : OkC co) (h : StI co) : sumZ (fun j => bz (co 3 j = 1 ∧ co 4 j = 1)) (co 0 0).toNat + sumZ (fun j => bz (co 3 j = 2 ∧ co 4 j = 1)) (co 0 0).toNat = sumZ (fun j => bz (¬ co 4 j = 0)) (co 0 0).toNat := by
  refine (sumZ_add (fun j j0 j1 => ?_)).symm
  have h3 := hO.b3 j
  have h4 := hO.b4 j
  have h5 := (h.2 j j0 (by omega)).1
  unfold bz
  repeat' split
  all_goals omega
theorem vcM {co : Nat → Int → Int} (hO : OkC co) : co 0 0 - sumZ (fun j => bz (co 3 j = 0)) (co 0 0).toNat = sumZ (fun j => bz (co 3 j = 1)) (co 0 0).toNat + sumZ (fun j => bz (co 3 j = 2)) (co 0 0).toNat := by
  have hb := hO.b0
  have e1 := sumZ_add (f := fun j => bz (co 3 j = 1)) (g := fun j => bz (co 3 j = 2)) (h := fun j => 1 - bz (co 3 j = 0)) (n := (co 0 0).toNat) (fun j j0 j1 => by
    have h3 := hO.b3 j
    try dsimp only
    unfold bz
    repeat' split
    all_goals omega)
  have e2 := sumZ_add (f := fun j => 1 - bz (co 3 j = 0)) (g := fun j => bz (co 3 j = 0)) (h := fun _ => 1) (n := (co 0 0).toNat) (fun j _ _ => by (try dsimp only); omega)
  have e3 : ∀ n : Nat, sumZ (fun _ => 1) n = (n : Int) := fun n => by
    induction n with
    | zero => rfl
    | succ n ih => rw [sumZ_s, ih]; omega
  rw [e3] at e2
  omega
section MRET
variable {p : Program} {l : Launch} {e : Env} {R : Room} {s : State} {m : MethodId} {args : Array Value} {below : List Frame} {meth : Method} {c : Code} {Q : State → Prop} {nL : Nat} {H : Heap} {locs : List Loc} {k n : Nat} {pc : Nat} {L L' : List (Nat × Value)} {st : List Value} {cc : ByteArray} {own : String} {E : Nat → Nat → Nat}
variable {rs : List (Nat × Nat)} {Po : Option Value → Heap → Prop} {mc ms : Nat}
theorem m_cret {z : Int} (X : CF p m c cc nL s args own) (hz : 0 ≤ z ∧ z < 128) (hr : meth.sig.returnType = some .char) (hlk : meth.locks = false) (hM : MS E rs s H locs) (hdg : decode cc pc = .ok (.ireturn, 1)) (hk : (Nat.ble k mc && Nat.ble n ms) = true) (hp : Po (some (.int (zI z))) H) : V p l e R s m args below meth c (MQ below (Qm rs Po) args s mc ms (Fr rs s.heap.size)) nL H locs k n pc L [.int (zI z)] := by
  simp only [Bool.and_eq_true] at hk
  exact fun ls hl T hT St => W.zret X.1 X.2.1 hr (lat_nc hz) (fun t ht hW => ⟨_, rfl, by rw [ht]; exact hp, by rw [ht]; exact hM.F⟩) hM.1.2.2 hdg hlk T hT (stand_widen St (Nat.le_of_ble_eq_true hk.1) (Nat.le_of_ble_eq_true hk.2))
theorem m_dret {z : UInt64} (X : CF p m c cc nL s args own) (hr : meth.sig.returnType = some .double) (hlk : meth.locks = false) (hM : MS E rs s H locs) (hdg : decode cc pc = .ok (.dreturn, 1)) (hk : (Nat.ble k mc && Nat.ble n ms) = true) (hp : Po (some (.double z)) H) : V p l e R s m args below meth c (MQ below (Qm rs Po) args s mc ms (Fr rs s.heap.size)) nL H locs k n pc L [.double z] := by
  simp only [Bool.and_eq_true] at hk
  exact fun ls hl T hT St => W.dret X.1 X.2.1 hr (fun t ht hW => ⟨_, rfl, by rw [ht]; exact hp, by rw [ht]; exact hM.F⟩) hM.1.2.2 hdg hlk T hT (stand_widen St (Nat.le_of_ble_eq_true hk.1) (Nat.le_of_ble_eq_true hk.2))
theorem m_fret {z : UInt32} (X : CF p m c cc nL s args own) (hr : meth.sig.returnType = some .float) (hlk : meth.locks = false) (hM : MS E rs s H locs) (hdg : decode cc pc = .ok (.freturn, 1)) (hk : (Nat.ble k mc && Nat.ble n ms) = true) (hp : Po (some (.float z)) H) : V p l e R s m args below meth c (MQ below (Qm rs Po) args s mc ms (Fr rs s.heap.size)) nL H locs k n pc L [.float z] := by
  simp only [Bool.and_eq_true] at hk
  exact fun ls hl T hT St => W.fret X.1 X.2.1 hr (fun t ht hW => ⟨_, rfl, by rw [ht]; exact hp, by rw [ht]; exact hM.F⟩) hM.1.2.2 hdg hlk T hT (stand_widen St (Nat.le_of_ble_eq_true hk.1) (Nat.le_of_ble_eq_true hk.2))
theorem v_dconst0 (X : CF p m c cc nL s args own) (hdg : decode cc pc = .ok (.dconst 0, 1)) (pc' : Nat) (hp : pc + 1 = pc') (kk : V p l e R s m args below meth c Q nL H locs k n pc' L (.double FP.dconst0 :: st)) : V p l e R s m args below meth c Q nL H locs k n pc L st := by
  subst hp
  exact fun ls hl => lv_dconst0 X.1 X.2.1 hdg (kk ls hl)
theorem v_fconst0 (X : CF p m c cc nL s args own) (hdg : decode cc pc = .ok (.fconst 0, 1)) (pc' : Nat) (hp : pc + 1 = pc') (kk : V p l e R s m args below meth c Q nL H locs k n pc' L (.float FP.fconst0 :: st)) : V p l e R s m args below meth c Q nL H locs k n pc L st := by
  subst hp
  exact fun ls hl => lv_fconst0 X.1 X.2.1 hdg (kk ls hl)
end MRET
