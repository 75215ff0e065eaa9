theorem updC_id (c : Nat → Int → Int) (r : Nat) (i : Int) : updC c r (updZ (c r) i (c r i)) = c := by
  funext q j
  by_cases h : q = r
  · subst h
    rw [updC_at]
    unfold updZ
    split
    · rename_i e
      rw [e]
    · rfl
  · rw [updC_ne _ _ h]
def rkD (co : Nat → Int → Int) (k : Int) : Int := sumZ (fun j => bz (co 3 j = 0 ∧ cbC co j k)) (co 0 0).toNat
theorem rkD_b (co : Nat → Int → Int) (k : Int) : 0 ≤ rkD co k ∧ rkD co k ≤ (co 0 0).toNat := cnt_b (fun j => co 3 j = 0 ∧ cbC co j k) _
def dpC (co : Nat → Int → Int) (q : Int) : Int := firstZ (fun j => co 3 j = 0 ∧ rkD co j = q) (co 0 0).toNat
theorem dpC_b (co : Nat → Int → Int) (q : Int) : -1 ≤ dpC co q ∧ (dpC co q < (co 0 0).toNat ∨ dpC co q = -1) := firstZ_b (fun j => co 3 j = 0 ∧ rkD co j = q) _
def ndF (co : Nat → Int → Int) : Nat → Int
  | 0 => -1
  | n + 1 => if co 3 (n : Int) = 0 ∧ 0 < co 6 (n : Int) ∧ (ndF co n < 0 ∨ rkD co (n : Int) < rkD co (ndF co n)) then (n : Int) else ndF co n
theorem ndF_s (co : Nat → Int → Int) (n : Nat) : ndF co (n + 1) = if co 3 (n : Int) = 0 ∧ 0 < co 6 (n : Int) ∧ (ndF co n < 0 ∨ rkD co (n : Int) < rkD co (ndF co n)) then (n : Int) else ndF co n := rfl
theorem ndF_b (co : Nat → Int → Int) : ∀ n : Nat, -1 ≤ ndF co n ∧ (ndF co n < n)
  | 0 => by unfold ndF; omega
  | n + 1 => by
    have := ndF_b co n
    rw [ndF_s]
    split <;> omega
theorem agF {co : Nat → Int → Int} (hO : OkC co) (h : TsI co) {k w : Int} (h0 : 0 ≤ k) (h1 : k < co 0 0) (w0 : 0 ≤ w) (w1 : w < 8) : (swC co k w < 0 → co 8 (k * 8 + w) = 0) ∧ (0 ≤ swC co k w → sdC co k (swC co k w) = co 8 (k * 8 + w) ∧ (co 8 (k * 8 + w) = 1 ∨ co 8 (k * 8 + w) = -1)) := by
  have hb := hO.b0
  have hs := swC_iff hO h h0 h1 w0 w1
  refine ⟨fun q => (h.2.2.2 k w h0 (by omega) w0 w1 (by omega)).1, fun q => ⟨by unfold sdC; rw [swC_at q], h.sw h0 (by omega) w0 w1 (hs.mp q)⟩⟩
theorem gcM {co : Nat → Int → Int} (hO : OkC co) (h : StI co) : sumZ (fun j => bz (co 3 j = 1 ∧ co 4 j = 1)) (co 0 0).toNat + sumZ (fun j => bz (co 3 j = 2 ∧ co 4 j = 1)) (co 0 0).toNat = sumZ (fun j => bz (¬ co 4 j = 0)) (co 0 0).toNat := by
  refine (sumZ_add (fun j j0 j1 => ?_)).symm
  have h3 := hO.b3 j
  have h4 := hO.b4 j
  have h5 := (h.2 j j0 (by omega)).1
  unfold bz
  repeat' split
  all_goals omega
theorem vcM {co : Nat → Int → Int} (hO : OkC co) : co 0 0 - sumZ (fun j => bz (co 3 j = 0)) (co 0 0).toNat = sumZ (fun j => bz (co 3 j = 1)) (co 0 0).toNat + sumZ (fun j => bz (co 3 j = 2)) (co 0 0).toNat := by
  have hb := hO.b0
  have e1 := sumZ_add (f := fun j => bz (co 3 j = 1)) (g := fun j => bz (co 3 j = 2)) (h := fun j => 1 - bz (co 3 j = 0)) (n := (co 0 0).toNat) (fun j j0 j1 => by
    have h3 := hO.b3 j
    try dsimp only
    unfold bz
    repeat' split
    all_goals omega)
  have e2 := sumZ_add (f := fun j => 1 - bz (co 3 j = 0)) (g := fun j => bz (co 3 j = 0)) (h := fun _ => 1) (n := (co 0 0).toNat) (fun j _ _ => by (try dsimp only); omega)
  have e3 : ∀ n : Nat, sumZ (fun _ => 1) n = (n : Int) := fun n => by
    induction n with
    | zero => rfl
    | succ n ih => rw [sumZ_s, ih]; omega
  rw [e3] at e2
  omega
section MRET
variable {p : Program} {l : Launch} {e : Env} {R : Room} {s : State} {m : MethodId} {args : Array Value} {below : List Frame} {meth : Method} {c : Code} {Q : State → Prop} {nL : Nat} {H : Heap} {locs : List Loc} {k n : Nat} {pc : Nat} {L L' : List (Nat × Value)} {st : List Value} {cc : ByteArray} {own : String} {E : Nat → Nat → Nat}
variable {rs : List (Nat × Nat)} {Po : Option Value → Heap → Prop} {mc ms : Nat}
theorem m_cret {z : Int} (X : CF p m c cc nL s args own) (hz : 0 ≤ z ∧ z < 128) (hr : meth.sig.returnType = some .char) (hlk : meth.locks = false) (hM : MS E rs s H locs) (hdg : decode cc pc = .ok (.ireturn, 1)) (hk : (Nat.ble k mc && Nat.ble n ms) = true) (hp : Po (some (.int (zI z))) H) : V p l e R s m args below meth c (MQ below (Qm rs Po) args s mc ms (Fr rs s.heap.size)) nL H locs k n pc L [.int (zI z)] := by
  simp only [Bool.and_eq_true] at hk
  exact fun ls hl T hT St => W.zret X.1 X.2.1 hr (lat_nc hz) (fun t ht hW => ⟨_, rfl, by rw [ht]; exact hp, by rw [ht]; exact hM.F⟩) hM.1.2.2 hdg hlk T hT (stand_widen St (Nat.le_of_ble_eq_true hk.1) (Nat.le_of_ble_eq_true hk.2))
theorem m_dret {z : UInt64} (X : CF p m c cc nL s args own) (hr : meth.sig.returnType = some .double) (hlk : meth.locks = false) (hM : MS E rs s H locs) (hdg : decode cc pc = .ok (.dreturn, 1)) (hk : (Nat.ble k mc && Nat.ble n ms) = true) (hp : Po (some (.double z)) H) : V p l e R s m args below meth c (MQ below (Qm rs Po) args s mc ms (Fr rs s.heap.size)) nL H locs k n pc L [.double z] := by
  simp only [Bool.and_eq_true] at hk
  exact fun ls hl T hT St => W.dret X.1 X.2.1 hr (fun t ht hW => ⟨_, rfl, by rw [ht]; exact hp, by rw [ht]; exact hM.F⟩) hM.1.2.2 hdg hlk T hT (stand_widen St (Nat.le_of_ble_eq_true hk.1) (Nat.le_of_ble_eq_true hk.2))
theorem m_fret {z : UInt32} (X : CF p m c cc nL s args own) (hr : meth.sig.returnType = some .float) (hlk : meth.locks = false) (hM : MS E rs s H locs) (hdg : decode cc pc = .ok (.freturn, 1)) (hk : (Nat.ble k mc && Nat.ble n ms) = true) (hp : Po (some (.float z)) H) : V p l e R s m args below meth c (MQ below (Qm rs Po) args s mc ms (Fr rs s.heap.size)) nL H locs k n pc L [.float z] := by
  simp only [Bool.and_eq_true] at hk
  exact fun ls hl T hT St => W.fret X.1 X.2.1 hr (fun t ht hW => ⟨_, rfl, by rw [ht]; exact hp, by rw [ht]; exact hM.F⟩) hM.1.2.2 hdg hlk T hT (stand_widen St (Nat.le_of_ble_eq_true hk.1) (Nat.le_of_ble_eq_true hk.2))
theorem v_dconst0 (X : CF p m c cc nL s args own) (hdg : decode cc pc = .ok (.dconst 0, 1)) (pc' : Nat) (hp : pc + 1 = pc') (kk : V p l e R s m args below meth c Q nL H locs k n pc' L (.double FP.dconst0 :: st)) : V p l e R s m args below meth c Q nL H locs k n pc L st := by
  subst hp
  exact fun ls hl => lv_dconst0 X.1 X.2.1 hdg (kk ls hl)
theorem v_fconst0 (X : CF p m c cc nL s args own) (hdg : decode cc pc = .ok (.fconst 0, 1)) (pc' : Nat) (hp : pc + 1 = pc') (kk : V p l e R s m args below meth c Q nL H locs k n pc' L (.float FP.fconst0 :: st)) : V p l e R s m args below meth c Q nL H locs k n pc L st := by
  subst hp
  exact fun ls hl => lv_fconst0 X.1 X.2.1 hdg (kk ls hl)
end MRET
set_option maxHeartbeats 4000000 in
set_option maxRecDepth 20000 in
theorem c_X10_mostCredible (l : Launch) (E : Nat → Nat → Nat) (b : Nat) (mo : Nat → Int → Int) (co : Nat → Int → Int) (r : Int) (hO : OkC co) (hR : RelC co (mo 1)) (hI : TsI co) (gr : Rg r) (p0 : 0 ≤ firstZ (fun j => rkC co j = r) (co 0 1).toNat) : Mu l yX10_mostCredible cX10_mostCredible 7 (some .int) 3 0 0 E [(b, 5)] [.ref b, .int (zI r)] (fun H => PR E b (modelW E b mo) H) (fun rv H => rv = some (.int (zI (firstZ (fun j => rkC co j = r) (co 0 1).toNat))) ∧ PR E b (modelW E b (updC mo 0 (updZ (mo 0) 0 0))) H) := by
  refine Mu.start (own := RX10) rfl (by decide +kernel) (Nat.le_of_ble_eq_true rfl) ?_
  intro p e s m below meth cd args Q hQ X hr hlk hnm hM hPr
  have h_mo := hPr
  have hb0 := hO.b0
  have hbw := hO.bw
  have hr0 := hR.s0
  have hr1 := hR.s1
  refine v_iconst X dX10_mostCredible_0 1 rfl ?_
  refine v_istore_n X dX10_mostCredible_1 2 rfl rfl (by decide) (L' := [(2, .int (zI 0)), (0, .ref b), (1, .int (zI r))]) rfl ?_
  refine V_L (L' := [(2, .int (zI 0)), (0, .ref b), (1, .int (zI r))]) (LC rfl (LC rfl (LC rfl rfl))) ?_
  refine up_loop ((co 0 1).toNat) (P := fun (i : Nat) => ∀ (tv : Int), (∀ j : Int, 0 ≤ j → j < (i : Int) → ¬ (rkC co j = r)) → ∀ (H : Heap) (lo : List Loc), MS E [(b, 5)] s H lo → PR E b (modelW E b (updC mo 0 (updZ (mo 0) 0 tv))) H → V p l e (rmL 3 0 0) s m args below meth cd Q 7 H lo 0 0 2 [(2, .int (zI (i : Int))), (0, .ref b), (1, .int (zI r))] []) (fun i hi_i ih_i tv hno_i H1 lo1 hM h_mo => ?_) (mo 0 0) (fun j a b => absurd b (by omega)) _ _ hM (PR.to h_mo (by rw [updC_id]))
  refine v_iload_n X dX10_mostCredible_2 3 rfl 0 rfl ?_
  refine v_aload_n X dX10_mostCredible_3 4 rfl 1 rfl ?_
  refine v_getf X hM.C h_mo.1 inX10 0 rfl rfl 1 (by decide) kf_X10_9 (fun _ h => h) rfl dX10_mostCredible_4 7 rfl ?_
  refine v_iconst X dX10_mostCredible_7 8 rfl ?_
  refine v_iald X hM.C h_mo.1 1 rfl (by omega) (by omega) (by omega) dX10_mostCredible_8 9 rfl ?_
  show V p l e (rmL 3 0 0) s m args below meth cd Q 7 H1 lo1 0 0 9 [(2, .int (zI (i : Int))), (0, .ref b), (1, .int (zI r))] [.int (zI (mo 1 1)), .int (zI (i : Int))]
  have hb_3 := hR.s1
  refine v_icmp_ge X (by omega) (by omega) dX10_mostCredible_9 12 127 rfl (by decide) (fun c_2 => ?_) (fun c_2 => ?_)
  · skip
    have hnz : firstZ (fun j => rkC co j = r) (co 0 1).toNat = -1 := firstZ_none (p := fun j => rkC co j = r) (n := (co 0 1).toNat) (fun j a b => hno_i j a (by omega))
    refine v_aload_n X dX10_mostCredible_127 128 rfl 1 rfl ?_
    refine v_iconst X dX10_mostCredible_128 129 rfl ?_
    refine v_putf X hM h_mo ftX10 0 rfl rfl 0 (by decide) kf_X10_30 (fun _ h => h) rfl rfl rfl (Nat.le_of_ble_eq_true rfl) (Or.inl (fsH (by omega) (by omega))) dX10_mostCredible_129 132 rfl (ws' := modelW E b (updC mo 0 (updZ (mo 0) 0 1))) rfl (fun H4 lo4 hzz hM hF h_mo => ?_)
    clear hzz
    refine v_iconst X dX10_mostCredible_132 133 rfl ?_
    exfalso; omega
  · skip
    refine v_iconst X dX10_mostCredible_12 13 rfl ?_
    refine v_istore_n X dX10_mostCredible_13 14 rfl rfl (by decide) (L' := [(3, .int (zI 0)), (2, .int (zI (i : Int))), (0, .ref b), (1, .int (zI r))]) rfl ?_
    refine v_iconst X dX10_mostCredible_14 15 rfl ?_
    refine v_istore X dX10_mostCredible_15 17 rfl (by decide) (L' := [(4, .int (zI 0)), (3, .int (zI 0)), (2, .int (zI (i : Int))), (0, .ref b), (1, .int (zI r))]) rfl ?_
    refine V_L (L' := [(4, .int (zI 0)), (3, .int (zI (sumZ (fun q => bz (mcC co q (i : Int))) 0))), (2, .int (zI (i : Int))), (0, .ref b), (1, .int (zI r))]) (LC rfl (LC (vz (by rfl)) (LC rfl (LC rfl (LC rfl rfl))))) ?_
    refine up_loop ((co 0 1).toNat) (P := fun (j : Nat) => ∀ (H : Heap) (lo : List Loc), MS E [(b, 5)] s H lo → PR E b (modelW E b (updC mo 0 (updZ (mo 0) 0 tv))) H → V p l e (rmL 3 0 0) s m args below meth cd Q 7 H lo 0 0 17 [(4, .int (zI (j : Int))), (3, .int (zI (sumZ (fun q => bz (mcC co q (i : Int))) j))), (2, .int (zI (i : Int))), (0, .ref b), (1, .int (zI r))] []) (fun j hi_j ih_j H5 lo5 hM h_mo => ?_) _ _ hM h_mo
    refine v_iload X dX10_mostCredible_17 19 rfl 0 rfl ?_
    refine v_aload_n X dX10_mostCredible_19 20 rfl 3 rfl ?_
    refine v_getf X hM.C h_mo.1 inX10 0 rfl rfl 1 (by decide) kf_X10_9 (fun _ h => h) rfl dX10_mostCredible_20 23 rfl ?_
    refine v_iconst X dX10_mostCredible_23 24 rfl ?_
    refine v_iald X hM.C h_mo.1 1 rfl (by omega) (by omega) (by omega) dX10_mostCredible_24 25 rfl ?_
    show V p l e (rmL 3 0 0) s m args below meth cd Q 7 H5 lo5 0 0 25 [(4, .int (zI (j : Int))), (3, .int (zI (sumZ (fun q => bz (mcC co q (i : Int))) j))), (2, .int (zI (i : Int))), (0, .ref b), (1, .int (zI r))] [.int (zI (mo 1 1)), .int (zI (j : Int))]
    refine v_icmp_ge X (by omega) (by omega) dX10_mostCredible_25 28 102 rfl (by decide) (fun c_6 => ?_) (fun c_6 => ?_)
    · skip
      refine V_L (L' := [(4, .int (zI (j : Int))), (3, .int (zI (rkC co (i : Int)))), (2, .int (zI (i : Int))), (0, .ref b), (1, .int (zI r))]) (LC rfl (LC (vz (by rw [show j = (co 0 1).toNat by omega]; rfl)) (LC rfl (LC rfl (LC rfl rfl))))) ?_
      have hrk := rkC_b co (i : Int)
      refine v_aload_n X dX10_mostCredible_102 103 rfl 3 rfl ?_
      refine v_iload_n X dX10_mostCredible_103 104 rfl 1 rfl ?_
      refine v_iload_n X dX10_mostCredible_104 105 rfl 4 rfl ?_
      refine v_icmp_ne X (by omega) (by omega) dX10_mostCredible_105 108 112 rfl (by decide) (fun c_7 => ?_) (fun c_7 => ?_)
      · skip
        refine v_iconst X dX10_mostCredible_112 113 rfl ?_
        refine v_muV X hM (h_mo.1) (c_X10_isFine_0 l E b (updC mo 0 (updZ (mo 0) 0 tv))) kvX10_isFine kiX10_isFine kl_X10_124 (q0 := 0) rfl rfl (As := [.int (zI 0)]) rfl rfl rfl dX10_mostCredible_113 116 rfl (k' := 0) (n' := 0) rfl rfl (fsI (fun q q1 q2 => (Or.inl (fsH (by omega) (by omega))))) h_mo (fun rv H8 lo8 hM hF hpo => ?_)
        obtain ⟨rfl, hw_0⟩ := hpo
        have h_mo : PR E b (modelW E b (updC mo 0 (updZ (mo 0) 0 1))) H8 := hw_0
        show V p l e (rmL 3 0 0) s m args below meth cd Q 7 H8 lo8 0 0 116 [(4, .int (zI (j : Int))), (3, .int (zI (rkC co (i : Int)))), (2, .int (zI (i : Int))), (0, .ref b), (1, .int (zI r))] [.int (zI 0)]
        refine v_if_eq X (by omega) dX10_mostCredible_116 119 121 rfl (by decide) (fun c_9 => ?_) (fun c_9 => ?_)
        · skip
          refine v_iinc X dX10_mostCredible_121 124 rfl 2 rfl (by decide) (L' := [(2, .int (zI ((i : Int) + 1))), (4, .int (zI (j : Int))), (3, .int (zI (rkC co (i : Int)))), (0, .ref b), (1, .int (zI r))]) rfl ?_
          refine v_goto X dX10_mostCredible_124 2 (by decide) ?_
          refine v_locals [0, 3, 4] (L' := [(2, .int (zI ((i : Int) + 1))), (0, .ref b), (1, .int (zI r))]) rfl ?_
          exact V_L (L' := [(2, .int (zI ((i + 1 : Nat) : Int))), (0, .ref b), (1, .int (zI r))]) (LC (vz (by omega)) (LC rfl (LC rfl rfl))) (ih_i (by omega) 1 (fun j a b => by
            rcases (show j < (i : Int) ∨ (i : Int) ≤ j by omega) with q | q
            · exact hno_i j a q
            · have e : j = (i : Int) := by omega
              subst e
              first | assumption | omega) _ _ hM h_mo)
        · skip
          exfalso; omega
      · skip
        refine v_iconst X dX10_mostCredible_108 109 rfl ?_
        refine v_goto X dX10_mostCredible_109 113 (by decide) ?_
        refine v_muV X hM (h_mo.1) (c_X10_isFine_1 l E b (updC mo 0 (updZ (mo 0) 0 tv))) kvX10_isFine kiX10_isFine kl_X10_124 (q0 := 0) rfl rfl (As := [.int (zI 1)]) rfl rfl rfl dX10_mostCredible_113 116 rfl (k' := 0) (n' := 0) rfl rfl (fsI (fun q q1 q2 => (Or.inl (fsH (by omega) (by omega))))) h_mo (fun rv H10 lo10 hM hF hpo => ?_)
        obtain ⟨rfl, hw_0⟩ := hpo
        have h_mo : PR E b (modelW E b (updC mo 0 (updZ (mo 0) 0 0))) H10 := hw_0
        show V p l e (rmL 3 0 0) s m args below meth cd Q 7 H10 lo10 0 0 116 [(4, .int (zI (j : Int))), (3, .int (zI (rkC co (i : Int)))), (2, .int (zI (i : Int))), (0, .ref b), (1, .int (zI r))] [.int (zI 1)]
        refine v_if_eq X (by omega) dX10_mostCredible_116 119 121 rfl (by decide) (fun c_11 => ?_) (fun c_11 => ?_)
        · skip
          exfalso; omega
        · skip
          have hhz : firstZ (fun j => rkC co j = r) (co 0 1).toNat = (i : Int) := firstZ_hit (p := fun j => rkC co j = r) (n := (co 0 1).toNat) (by omega) (by omega) (by first | assumption | omega) hno_i
          refine v_iload_n X dX10_mostCredible_119 120 rfl 2 rfl ?_
          subst hQ; exact m_iret X hr hlk hM dX10_mostCredible_120 rfl ⟨(sv (by omega)), h_mo⟩
    · skip
      refine v_aload_n X dX10_mostCredible_28 29 rfl 3 rfl ?_
      refine v_getf X hM.C h_mo.1 inX10 0 rfl rfl 1 (by decide) kf_X10_9 (fun _ h => h) rfl dX10_mostCredible_29 32 rfl ?_
      refine v_iconst X dX10_mostCredible_32 33 rfl ?_
      refine v_iload X dX10_mostCredible_33 35 rfl 0 rfl ?_
      refine v_iadd X dX10_mostCredible_35 36 rfl ?_
      refine v_iald X hM.C h_mo.1 1 rfl (by omega) (by omega) (by omega) dX10_mostCredible_36 37 rfl ?_
      show V p l e (rmL 3 0 0) s m args below meth cd Q 7 H5 lo5 0 0 37 [(4, .int (zI (j : Int))), (3, .int (zI (sumZ (fun q => bz (mcC co q (i : Int))) j))), (2, .int (zI (i : Int))), (0, .ref b), (1, .int (zI r))] [.int (zI (mo 1 (4 + (j : Int))))]
      refine V_S (st' := [.int (zI (co 11 (j : Int)))]) (by rw [hR.w (by omega) (by omega)]) ?_
      refine v_aload_n X dX10_mostCredible_37 38 rfl 3 rfl ?_
      refine v_getf X hM.C h_mo.1 inX10 0 rfl rfl 1 (by decide) kf_X10_9 (fun _ h => h) rfl dX10_mostCredible_38 41 rfl ?_
      refine v_iconst X dX10_mostCredible_41 42 rfl ?_
      refine v_iload_n X dX10_mostCredible_42 43 rfl 2 rfl ?_
      refine v_iadd X dX10_mostCredible_43 44 rfl ?_
      refine v_iald X hM.C h_mo.1 1 rfl (by omega) (by omega) (by omega) dX10_mostCredible_44 45 rfl ?_
      show V p l e (rmL 3 0 0) s m args below meth cd Q 7 H5 lo5 0 0 45 [(4, .int (zI (j : Int))), (3, .int (zI (sumZ (fun q => bz (mcC co q (i : Int))) j))), (2, .int (zI (i : Int))), (0, .ref b), (1, .int (zI r))] [.int (zI (mo 1 (4 + (i : Int)))), .int (zI (co 11 (j : Int)))]
      refine V_S (st' := [.int (zI (co 11 (i : Int))), .int (zI (co 11 (j : Int)))]) (by rw [hR.w (by omega) (by omega)]) ?_
      refine v_isub X dX10_mostCredible_45 46 rfl ?_
      refine v_istore X dX10_mostCredible_46 48 rfl (by decide) (L' := [(5, .int (zI (co 11 (j : Int) - co 11 (i : Int)))), (4, .int (zI (j : Int))), (3, .int (zI (sumZ (fun q => bz (mcC co q (i : Int))) j))), (2, .int (zI (i : Int))), (0, .ref b), (1, .int (zI r))]) rfl ?_
      refine v_aload_n X dX10_mostCredible_48 49 rfl 4 rfl ?_
      refine v_iload X dX10_mostCredible_49 51 rfl 1 rfl ?_
      refine v_rdV X hM.C h_mo.1 (c_X10_casesBy l E b (updC mo 0 (updZ (mo 0) 0 tv)) co (j : Int) hO hR hI (by omega) (by omega)) kvX10_casesBy kiX10_casesBy kl_X10_134 rfl rfl (As := [.int (zI (j : Int))]) rfl rfl rfl dX10_mostCredible_51 54 rfl ?_
      show V p l e (rmL 3 0 0) s m args below meth cd Q 7 H5 lo5 0 0 54 [(5, .int (zI (co 11 (j : Int) - co 11 (i : Int)))), (4, .int (zI (j : Int))), (3, .int (zI (sumZ (fun q => bz (mcC co q (i : Int))) j))), (2, .int (zI (i : Int))), (0, .ref b), (1, .int (zI r))] [.int (zI (chC co (j : Int)))]
      have hf_12 := chC_b co (j : Int)
      refine v_aload_n X dX10_mostCredible_54 55 rfl 4 rfl ?_
      refine v_iload_n X dX10_mostCredible_55 56 rfl 3 rfl ?_
      refine v_rdV X hM.C h_mo.1 (c_X10_casesBy l E b (updC mo 0 (updZ (mo 0) 0 tv)) co (i : Int) hO hR hI (by omega) (by omega)) kvX10_casesBy kiX10_casesBy kl_X10_134 rfl rfl (As := [.int (zI (i : Int))]) rfl rfl rfl dX10_mostCredible_56 59 rfl ?_
      show V p l e (rmL 3 0 0) s m args below meth cd Q 7 H5 lo5 0 0 59 [(5, .int (zI (co 11 (j : Int) - co 11 (i : Int)))), (4, .int (zI (j : Int))), (3, .int (zI (sumZ (fun q => bz (mcC co q (i : Int))) j))), (2, .int (zI (i : Int))), (0, .ref b), (1, .int (zI r))] [.int (zI (chC co (i : Int))), .int (zI (chC co (j : Int)))]
      have hf_13 := chC_b co (i : Int)
      refine v_isub X dX10_mostCredible_59 60 rfl ?_
      refine v_istore X dX10_mostCredible_60 62 rfl (by decide) (L' := [(6, .int (zI (chC co (j : Int) - chC co (i : Int)))), (5, .int (zI (co 11 (j : Int) - co 11 (i : Int)))), (4, .int (zI (j : Int))), (3, .int (zI (sumZ (fun q => bz (mcC co q (i : Int))) j))), (2, .int (zI (i : Int))), (0, .ref b), (1, .int (zI r))]) rfl ?_
      refine v_iload_n X dX10_mostCredible_62 63 rfl 3 rfl ?_
      refine v_iload X dX10_mostCredible_63 65 rfl 1 rfl ?_
      have hb_15 := hO.b11 (j : Int)
      have hb_16 := hO.b11 (i : Int)
      refine v_if_gt X (by omega) dX10_mostCredible_65 68 89 rfl (by decide) (fun c_14 => ?_) (fun c_14 => ?_)
      · skip
        refine v_iconst X dX10_mostCredible_89 90 rfl ?_
        refine v_goto X dX10_mostCredible_90 94 (by decide) ?_
        refine v_iadd X dX10_mostCredible_94 95 rfl ?_
        refine v_istore_n X dX10_mostCredible_95 96 rfl rfl (by decide) (L' := [(3, .int (zI (sumZ (fun q => bz (mcC co q (i : Int))) j + 1))), (6, .int (zI (chC co (j : Int) - chC co (i : Int)))), (5, .int (zI (co 11 (j : Int) - co 11 (i : Int)))), (4, .int (zI (j : Int))), (2, .int (zI (i : Int))), (0, .ref b), (1, .int (zI r))]) rfl ?_
        refine v_iinc X dX10_mostCredible_96 99 rfl 3 rfl (by decide) (L' := [(4, .int (zI ((j : Int) + 1))), (3, .int (zI (sumZ (fun q => bz (mcC co q (i : Int))) j + 1))), (6, .int (zI (chC co (j : Int) - chC co (i : Int)))), (5, .int (zI (co 11 (j : Int) - co 11 (i : Int)))), (2, .int (zI (i : Int))), (0, .ref b), (1, .int (zI r))]) rfl ?_
        refine v_goto X dX10_mostCredible_99 17 (by decide) ?_
        refine v_locals [0, 1, 4, 5, 6] (L' := [(4, .int (zI ((j : Int) + 1))), (3, .int (zI (sumZ (fun q => bz (mcC co q (i : Int))) j + 1))), (2, .int (zI (i : Int))), (0, .ref b), (1, .int (zI r))]) rfl ?_
        exact V_L (L' := [(4, .int (zI ((j + 1 : Nat) : Int))), (3, .int (zI (sumZ (fun q => bz (mcC co q (i : Int))) (j + 1)))), (2, .int (zI (i : Int))), (0, .ref b), (1, .int (zI r))]) (LC (vz (by omega)) (LC (vz (by first | rw [sumZ_s, bz_t (φ := mcC co (j : Int) (i : Int)) (by unfold mcC; omega)] | (rw [sumZ_s, bz_f (φ := mcC co (j : Int) (i : Int)) (by unfold mcC; omega)] <;> omega))) (LC rfl (LC rfl (LC rfl rfl))))) (ih_j (by omega) _ _ hM h_mo)
      · skip
        refine v_iload X dX10_mostCredible_68 70 rfl 1 rfl ?_
        refine v_if_ne X (by omega) dX10_mostCredible_70 73 93 rfl (by decide) (fun c_17 => ?_) (fun c_17 => ?_)
        · skip
          refine v_iconst X dX10_mostCredible_93 94 rfl ?_
          refine v_iadd X dX10_mostCredible_94 95 rfl ?_
          refine v_istore_n X dX10_mostCredible_95 96 rfl rfl (by decide) (L' := [(3, .int (zI (sumZ (fun q => bz (mcC co q (i : Int))) j + 0))), (6, .int (zI (chC co (j : Int) - chC co (i : Int)))), (5, .int (zI (co 11 (j : Int) - co 11 (i : Int)))), (4, .int (zI (j : Int))), (2, .int (zI (i : Int))), (0, .ref b), (1, .int (zI r))]) rfl ?_
          refine v_iinc X dX10_mostCredible_96 99 rfl 3 rfl (by decide) (L' := [(4, .int (zI ((j : Int) + 1))), (3, .int (zI (sumZ (fun q => bz (mcC co q (i : Int))) j + 0))), (6, .int (zI (chC co (j : Int) - chC co (i : Int)))), (5, .int (zI (co 11 (j : Int) - co 11 (i : Int)))), (2, .int (zI (i : Int))), (0, .ref b), (1, .int (zI r))]) rfl ?_
          refine v_goto X dX10_mostCredible_99 17 (by decide) ?_
          refine v_locals [0, 1, 4, 5, 6] (L' := [(4, .int (zI ((j : Int) + 1))), (3, .int (zI (sumZ (fun q => bz (mcC co q (i : Int))) j + 0))), (2, .int (zI (i : Int))), (0, .ref b), (1, .int (zI r))]) rfl ?_
          exact V_L (L' := [(4, .int (zI ((j + 1 : Nat) : Int))), (3, .int (zI (sumZ (fun q => bz (mcC co q (i : Int))) (j + 1)))), (2, .int (zI (i : Int))), (0, .ref b), (1, .int (zI r))]) (LC (vz (by omega)) (LC (vz (by first | rw [sumZ_s, bz_t (φ := mcC co (j : Int) (i : Int)) (by unfold mcC; omega)] | (rw [sumZ_s, bz_f (φ := mcC co (j : Int) (i : Int)) (by unfold mcC; omega)] <;> omega))) (LC rfl (LC rfl (LC rfl rfl))))) (ih_j (by omega) _ _ hM h_mo)
        · skip
          refine v_iload X dX10_mostCredible_73 75 rfl 0 rfl ?_
          refine v_if_gt X (by omega) dX10_mostCredible_75 78 89 rfl (by decide) (fun c_18 => ?_) (fun c_18 => ?_)
          · skip
            refine v_iconst X dX10_mostCredible_89 90 rfl ?_
            refine v_goto X dX10_mostCredible_90 94 (by decide) ?_
            refine v_iadd X dX10_mostCredible_94 95 rfl ?_
            refine v_istore_n X dX10_mostCredible_95 96 rfl rfl (by decide) (L' := [(3, .int (zI (sumZ (fun q => bz (mcC co q (i : Int))) j + 1))), (6, .int (zI (chC co (j : Int) - chC co (i : Int)))), (5, .int (zI (co 11 (j : Int) - co 11 (i : Int)))), (4, .int (zI (j : Int))), (2, .int (zI (i : Int))), (0, .ref b), (1, .int (zI r))]) rfl ?_
            refine v_iinc X dX10_mostCredible_96 99 rfl 3 rfl (by decide) (L' := [(4, .int (zI ((j : Int) + 1))), (3, .int (zI (sumZ (fun q => bz (mcC co q (i : Int))) j + 1))), (6, .int (zI (chC co (j : Int) - chC co (i : Int)))), (5, .int (zI (co 11 (j : Int) - co 11 (i : Int)))), (2, .int (zI (i : Int))), (0, .ref b), (1, .int (zI r))]) rfl ?_
            refine v_goto X dX10_mostCredible_99 17 (by decide) ?_
            refine v_locals [0, 1, 4, 5, 6] (L' := [(4, .int (zI ((j : Int) + 1))), (3, .int (zI (sumZ (fun q => bz (mcC co q (i : Int))) j + 1))), (2, .int (zI (i : Int))), (0, .ref b), (1, .int (zI r))]) rfl ?_
            exact V_L (L' := [(4, .int (zI ((j + 1 : Nat) : Int))), (3, .int (zI (sumZ (fun q => bz (mcC co q (i : Int))) (j + 1)))), (2, .int (zI (i : Int))), (0, .ref b), (1, .int (zI r))]) (LC (vz (by omega)) (LC (vz (by first | rw [sumZ_s, bz_t (φ := mcC co (j : Int) (i : Int)) (by unfold mcC; omega)] | (rw [sumZ_s, bz_f (φ := mcC co (j : Int) (i : Int)) (by unfold mcC; omega)] <;> omega))) (LC rfl (LC rfl (LC rfl rfl))))) (ih_j (by omega) _ _ hM h_mo)
          · skip
            refine v_iload X dX10_mostCredible_78 80 rfl 0 rfl ?_
            refine v_if_ne X (by omega) dX10_mostCredible_80 83 93 rfl (by decide) (fun c_19 => ?_) (fun c_19 => ?_)
            · skip
              refine v_iconst X dX10_mostCredible_93 94 rfl ?_
              refine v_iadd X dX10_mostCredible_94 95 rfl ?_
              refine v_istore_n X dX10_mostCredible_95 96 rfl rfl (by decide) (L' := [(3, .int (zI (sumZ (fun q => bz (mcC co q (i : Int))) j + 0))), (6, .int (zI (chC co (j : Int) - chC co (i : Int)))), (5, .int (zI (co 11 (j : Int) - co 11 (i : Int)))), (4, .int (zI (j : Int))), (2, .int (zI (i : Int))), (0, .ref b), (1, .int (zI r))]) rfl ?_
              refine v_iinc X dX10_mostCredible_96 99 rfl 3 rfl (by decide) (L' := [(4, .int (zI ((j : Int) + 1))), (3, .int (zI (sumZ (fun q => bz (mcC co q (i : Int))) j + 0))), (6, .int (zI (chC co (j : Int) - chC co (i : Int)))), (5, .int (zI (co 11 (j : Int) - co 11 (i : Int)))), (2, .int (zI (i : Int))), (0, .ref b), (1, .int (zI r))]) rfl ?_
              refine v_goto X dX10_mostCredible_99 17 (by decide) ?_
              refine v_locals [0, 1, 4, 5, 6] (L' := [(4, .int (zI ((j : Int) + 1))), (3, .int (zI (sumZ (fun q => bz (mcC co q (i : Int))) j + 0))), (2, .int (zI (i : Int))), (0, .ref b), (1, .int (zI r))]) rfl ?_
              exact V_L (L' := [(4, .int (zI ((j + 1 : Nat) : Int))), (3, .int (zI (sumZ (fun q => bz (mcC co q (i : Int))) (j + 1)))), (2, .int (zI (i : Int))), (0, .ref b), (1, .int (zI r))]) (LC (vz (by omega)) (LC (vz (by first | rw [sumZ_s, bz_t (φ := mcC co (j : Int) (i : Int)) (by unfold mcC; omega)] | (rw [sumZ_s, bz_f (φ := mcC co (j : Int) (i : Int)) (by unfold mcC; omega)] <;> omega))) (LC rfl (LC rfl (LC rfl rfl))))) (ih_j (by omega) _ _ hM h_mo)
            · skip
              refine v_iload X dX10_mostCredible_83 85 rfl 2 rfl ?_
              refine v_iload_n X dX10_mostCredible_85 86 rfl 4 rfl ?_
              refine v_icmp_ge X (by omega) (by omega) dX10_mostCredible_86 89 93 rfl (by decide) (fun c_20 => ?_) (fun c_20 => ?_)
              · skip
                refine v_iconst X dX10_mostCredible_93 94 rfl ?_
                refine v_iadd X dX10_mostCredible_94 95 rfl ?_
                refine v_istore_n X dX10_mostCredible_95 96 rfl rfl (by decide) (L' := [(3, .int (zI (sumZ (fun q => bz (mcC co q (i : Int))) j + 0))), (6, .int (zI (chC co (j : Int) - chC co (i : Int)))), (5, .int (zI (co 11 (j : Int) - co 11 (i : Int)))), (4, .int (zI (j : Int))), (2, .int (zI (i : Int))), (0, .ref b), (1, .int (zI r))]) rfl ?_
                refine v_iinc X dX10_mostCredible_96 99 rfl 3 rfl (by decide) (L' := [(4, .int (zI ((j : Int) + 1))), (3, .int (zI (sumZ (fun q => bz (mcC co q (i : Int))) j + 0))), (6, .int (zI (chC co (j : Int) - chC co (i : Int)))), (5, .int (zI (co 11 (j : Int) - co 11 (i : Int)))), (2, .int (zI (i : Int))), (0, .ref b), (1, .int (zI r))]) rfl ?_
                refine v_goto X dX10_mostCredible_99 17 (by decide) ?_
                refine v_locals [0, 1, 4, 5, 6] (L' := [(4, .int (zI ((j : Int) + 1))), (3, .int (zI (sumZ (fun q => bz (mcC co q (i : Int))) j + 0))), (2, .int (zI (i : Int))), (0, .ref b), (1, .int (zI r))]) rfl ?_
                exact V_L (L' := [(4, .int (zI ((j + 1 : Nat) : Int))), (3, .int (zI (sumZ (fun q => bz (mcC co q (i : Int))) (j + 1)))), (2, .int (zI (i : Int))), (0, .ref b), (1, .int (zI r))]) (LC (vz (by omega)) (LC (vz (by first | rw [sumZ_s, bz_t (φ := mcC co (j : Int) (i : Int)) (by unfold mcC; omega)] | (rw [sumZ_s, bz_f (φ := mcC co (j : Int) (i : Int)) (by unfold mcC; omega)] <;> omega))) (LC rfl (LC rfl (LC rfl rfl))))) (ih_j (by omega) _ _ hM h_mo)
              · skip
                refine v_iconst X dX10_mostCredible_89 90 rfl ?_
                refine v_goto X dX10_mostCredible_90 94 (by decide) ?_
                refine v_iadd X dX10_mostCredible_94 95 rfl ?_
                refine v_istore_n X dX10_mostCredible_95 96 rfl rfl (by decide) (L' := [(3, .int (zI (sumZ (fun q => bz (mcC co q (i : Int))) j + 1))), (6, .int (zI (chC co (j : Int) - chC co (i : Int)))), (5, .int (zI (co 11 (j : Int) - co 11 (i : Int)))), (4, .int (zI (j : Int))), (2, .int (zI (i : Int))), (0, .ref b), (1, .int (zI r))]) rfl ?_
                refine v_iinc X dX10_mostCredible_96 99 rfl 3 rfl (by decide) (L' := [(4, .int (zI ((j : Int) + 1))), (3, .int (zI (sumZ (fun q => bz (mcC co q (i : Int))) j + 1))), (6, .int (zI (chC co (j : Int) - chC co (i : Int)))), (5, .int (zI (co 11 (j : Int) - co 11 (i : Int)))), (2, .int (zI (i : Int))), (0, .ref b), (1, .int (zI r))]) rfl ?_
                refine v_goto X dX10_mostCredible_99 17 (by decide) ?_
                refine v_locals [0, 1, 4, 5, 6] (L' := [(4, .int (zI ((j : Int) + 1))), (3, .int (zI (sumZ (fun q => bz (mcC co q (i : Int))) j + 1))), (2, .int (zI (i : Int))), (0, .ref b), (1, .int (zI r))]) rfl ?_
                exact V_L (L' := [(4, .int (zI ((j + 1 : Nat) : Int))), (3, .int (zI (sumZ (fun q => bz (mcC co q (i : Int))) (j + 1)))), (2, .int (zI (i : Int))), (0, .ref b), (1, .int (zI r))]) (LC (vz (by omega)) (LC (vz (by first | rw [sumZ_s, bz_t (φ := mcC co (j : Int) (i : Int)) (by unfold mcC; omega)] | (rw [sumZ_s, bz_f (φ := mcC co (j : Int) (i : Int)) (by unfold mcC; omega)] <;> omega))) (LC rfl (LC rfl (LC rfl rfl))))) (ih_j (by omega) _ _ hM h_mo)
set_option maxHeartbeats 4000000 in
set_option maxRecDepth 20000 in
theorem c_X10_mostCredible_0 (l : Launch) (E : Nat → Nat → Nat) (b : Nat) (mo : Nat → Int → Int) (co : Nat → Int → Int) (r : Int) (hO : OkC co) (hR : RelC co (mo 1)) (hI : TsI co) (gr : Rg r) (nk : ¬ (0 ≤ firstZ (fun j => rkC co j = r) (co 0 1).toNat)) : Mu l yX10_mostCredible cX10_mostCredible 7 (some .int) 3 0 0 E [(b, 5)] [.ref b, .int (zI r)] (fun H => PR E b (modelW E b mo) H) (fun rv H => rv = some (.int (zI 0)) ∧ PR E b (modelW E b (updC mo 0 (updZ (mo 0) 0 1))) H) := by
  refine Mu.start (own := RX10) rfl (by decide +kernel) (Nat.le_of_ble_eq_true rfl) ?_
  intro p e s m below meth cd args Q hQ X hr hlk hnm hM hPr
  have h_mo := hPr
  have hb0 := hO.b0
  have hbw := hO.bw
  have hr0 := hR.s0
  have hr1 := hR.s1
  refine v_iconst X dX10_mostCredible_0 1 rfl ?_
  refine v_istore_n X dX10_mostCredible_1 2 rfl rfl (by decide) (L' := [(2, .int (zI 0)), (0, .ref b), (1, .int (zI r))]) rfl ?_
  refine V_L (L' := [(2, .int (zI 0)), (0, .ref b), (1, .int (zI r))]) (LC rfl (LC rfl (LC rfl rfl))) ?_
  refine up_loop ((co 0 1).toNat) (P := fun (i : Nat) => ∀ (tv : Int), (∀ j : Int, 0 ≤ j → j < (i : Int) → ¬ (rkC co j = r)) → ∀ (H : Heap) (lo : List Loc), MS E [(b, 5)] s H lo → PR E b (modelW E b (updC mo 0 (updZ (mo 0) 0 tv))) H → V p l e (rmL 3 0 0) s m args below meth cd Q 7 H lo 0 0 2 [(2, .int (zI (i : Int))), (0, .ref b), (1, .int (zI r))] []) (fun i hi_i ih_i tv hno_i H1 lo1 hM h_mo => ?_) (mo 0 0) (fun j a b => absurd b (by omega)) _ _ hM (PR.to h_mo (by rw [updC_id]))
  refine v_iload_n X dX10_mostCredible_2 3 rfl 0 rfl ?_
  refine v_aload_n X dX10_mostCredible_3 4 rfl 1 rfl ?_
  refine v_getf X hM.C h_mo.1 inX10 0 rfl rfl 1 (by decide) kf_X10_9 (fun _ h => h) rfl dX10_mostCredible_4 7 rfl ?_
  refine v_iconst X dX10_mostCredible_7 8 rfl ?_
  refine v_iald X hM.C h_mo.1 1 rfl (by omega) (by omega) (by omega) dX10_mostCredible_8 9 rfl ?_
  show V p l e (rmL 3 0 0) s m args below meth cd Q 7 H1 lo1 0 0 9 [(2, .int (zI (i : Int))), (0, .ref b), (1, .int (zI r))] [.int (zI (mo 1 1)), .int (zI (i : Int))]
  have hb_3 := hR.s1
  refine v_icmp_ge X (by omega) (by omega) dX10_mostCredible_9 12 127 rfl (by decide) (fun c_2 => ?_) (fun c_2 => ?_)
  · skip
    have hnz : firstZ (fun j => rkC co j = r) (co 0 1).toNat = -1 := firstZ_none (p := fun j => rkC co j = r) (n := (co 0 1).toNat) (fun j a b => hno_i j a (by omega))
    refine v_aload_n X dX10_mostCredible_127 128 rfl 1 rfl ?_
    refine v_iconst X dX10_mostCredible_128 129 rfl ?_
    refine v_putf X hM h_mo ftX10 0 rfl rfl 0 (by decide) kf_X10_30 (fun _ h => h) rfl rfl rfl (Nat.le_of_ble_eq_true rfl) (Or.inl (fsH (by omega) (by omega))) dX10_mostCredible_129 132 rfl (ws' := modelW E b (updC mo 0 (updZ (mo 0) 0 1))) rfl (fun H4 lo4 hzz hM hF h_mo => ?_)
    clear hzz
    refine v_iconst X dX10_mostCredible_132 133 rfl ?_
    subst hQ; exact m_iret X hr hlk hM dX10_mostCredible_133 rfl ⟨rfl, h_mo⟩
  · skip
    refine v_iconst X dX10_mostCredible_12 13 rfl ?_
    refine v_istore_n X dX10_mostCredible_13 14 rfl rfl (by decide) (L' := [(3, .int (zI 0)), (2, .int (zI (i : Int))), (0, .ref b), (1, .int (zI r))]) rfl ?_
    refine v_iconst X dX10_mostCredible_14 15 rfl ?_
    refine v_istore X dX10_mostCredible_15 17 rfl (by decide) (L' := [(4, .int (zI 0)), (3, .int (zI 0)), (2, .int (zI (i : Int))), (0, .ref b), (1, .int (zI r))]) rfl ?_
    refine V_L (L' := [(4, .int (zI 0)), (3, .int (zI (sumZ (fun q => bz (mcC co q (i : Int))) 0))), (2, .int (zI (i : Int))), (0, .ref b), (1, .int (zI r))]) (LC rfl (LC (vz (by rfl)) (LC rfl (LC rfl (LC rfl rfl))))) ?_
    refine up_loop ((co 0 1).toNat) (P := fun (j : Nat) => ∀ (H : Heap) (lo : List Loc), MS E [(b, 5)] s H lo → PR E b (modelW E b (updC mo 0 (updZ (mo 0) 0 tv))) H → V p l e (rmL 3 0 0) s m args below meth cd Q 7 H lo 0 0 17 [(4, .int (zI (j : Int))), (3, .int (zI (sumZ (fun q => bz (mcC co q (i : Int))) j))), (2, .int (zI (i : Int))), (0, .ref b), (1, .int (zI r))] []) (fun j hi_j ih_j H5 lo5 hM h_mo => ?_) _ _ hM h_mo
    refine v_iload X dX10_mostCredible_17 19 rfl 0 rfl ?_
    refine v_aload_n X dX10_mostCredible_19 20 rfl 3 rfl ?_
    refine v_getf X hM.C h_mo.1 inX10 0 rfl rfl 1 (by decide) kf_X10_9 (fun _ h => h) rfl dX10_mostCredible_20 23 rfl ?_
    refine v_iconst X dX10_mostCredible_23 24 rfl ?_
    refine v_iald X hM.C h_mo.1 1 rfl (by omega) (by omega) (by omega) dX10_mostCredible_24 25 rfl ?_
    show V p l e (rmL 3 0 0) s m args below meth cd Q 7 H5 lo5 0 0 25 [(4, .int (zI (j : Int))), (3, .int (zI (sumZ (fun q => bz (mcC co q (i : Int))) j))), (2, .int (zI (i : Int))), (0, .ref b), (1, .int (zI r))] [.int (zI (mo 1 1)), .int (zI (j : Int))]
    refine v_icmp_ge X (by omega) (by omega) dX10_mostCredible_25 28 102 rfl (by decide) (fun c_6 => ?_) (fun c_6 => ?_)
    · skip
      refine V_L (L' := [(4, .int (zI (j : Int))), (3, .int (zI (rkC co (i : Int)))), (2, .int (zI (i : Int))), (0, .ref b), (1, .int (zI r))]) (LC rfl (LC (vz (by rw [show j = (co 0 1).toNat by omega]; rfl)) (LC rfl (LC rfl (LC rfl rfl))))) ?_
      have hrk := rkC_b co (i : Int)
      refine v_aload_n X dX10_mostCredible_102 103 rfl 3 rfl ?_
      refine v_iload_n X dX10_mostCredible_103 104 rfl 1 rfl ?_
      refine v_iload_n X dX10_mostCredible_104 105 rfl 4 rfl ?_
      refine v_icmp_ne X (by omega) (by omega) dX10_mostCredible_105 108 112 rfl (by decide) (fun c_7 => ?_) (fun c_7 => ?_)
      · skip
        refine v_iconst X dX10_mostCredible_112 113 rfl ?_
        refine v_muV X hM (h_mo.1) (c_X10_isFine_0 l E b (updC mo 0 (updZ (mo 0) 0 tv))) kvX10_isFine kiX10_isFine kl_X10_124 (q0 := 0) rfl rfl (As := [.int (zI 0)]) rfl rfl rfl dX10_mostCredible_113 116 rfl (k' := 0) (n' := 0) rfl rfl (fsI (fun q q1 q2 => (Or.inl (fsH (by omega) (by omega))))) h_mo (fun rv H8 lo8 hM hF hpo => ?_)
        obtain ⟨rfl, hw_0⟩ := hpo
        have h_mo : PR E b (modelW E b (updC mo 0 (updZ (mo 0) 0 1))) H8 := hw_0
        show V p l e (rmL 3 0 0) s m args below meth cd Q 7 H8 lo8 0 0 116 [(4, .int (zI (j : Int))), (3, .int (zI (rkC co (i : Int)))), (2, .int (zI (i : Int))), (0, .ref b), (1, .int (zI r))] [.int (zI 0)]
        refine v_if_eq X (by omega) dX10_mostCredible_116 119 121 rfl (by decide) (fun c_9 => ?_) (fun c_9 => ?_)
        · skip
          refine v_iinc X dX10_mostCredible_121 124 rfl 2 rfl (by decide) (L' := [(2, .int (zI ((i : Int) + 1))), (4, .int (zI (j : Int))), (3, .int (zI (rkC co (i : Int)))), (0, .ref b), (1, .int (zI r))]) rfl ?_
          refine v_goto X dX10_mostCredible_124 2 (by decide) ?_
          refine v_locals [0, 3, 4] (L' := [(2, .int (zI ((i : Int) + 1))), (0, .ref b), (1, .int (zI r))]) rfl ?_
          exact V_L (L' := [(2, .int (zI ((i + 1 : Nat) : Int))), (0, .ref b), (1, .int (zI r))]) (LC (vz (by omega)) (LC rfl (LC rfl rfl))) (ih_i (by omega) 1 (fun j a b => by
            rcases (show j < (i : Int) ∨ (i : Int) ≤ j by omega) with q | q
            · exact hno_i j a q
            · have e : j = (i : Int) := by omega
              subst e
              first | assumption | omega) _ _ hM h_mo)
        · skip
          exfalso; omega
      · skip
        refine v_iconst X dX10_mostCredible_108 109 rfl ?_
        refine v_goto X dX10_mostCredible_109 113 (by decide) ?_
        refine v_muV X hM (h_mo.1) (c_X10_isFine_1 l E b (updC mo 0 (updZ (mo 0) 0 tv))) kvX10_isFine kiX10_isFine kl_X10_124 (q0 := 0) rfl rfl (As := [.int (zI 1)]) rfl rfl rfl dX10_mostCredible_113 116 rfl (k' := 0) (n' := 0) rfl rfl (fsI (fun q q1 q2 => (Or.inl (fsH (by omega) (by omega))))) h_mo (fun rv H10 lo10 hM hF hpo => ?_)
        obtain ⟨rfl, hw_0⟩ := hpo
        have h_mo : PR E b (modelW E b (updC mo 0 (updZ (mo 0) 0 0))) H10 := hw_0
        show V p l e (rmL 3 0 0) s m args below meth cd Q 7 H10 lo10 0 0 116 [(4, .int (zI (j : Int))), (3, .int (zI (rkC co (i : Int)))), (2, .int (zI (i : Int))), (0, .ref b), (1, .int (zI r))] [.int (zI 1)]
        refine v_if_eq X (by omega) dX10_mostCredible_116 119 121 rfl (by decide) (fun c_11 => ?_) (fun c_11 => ?_)
        · skip
          exfalso; omega
        · skip
          have hhz : firstZ (fun j => rkC co j = r) (co 0 1).toNat = (i : Int) := firstZ_hit (p := fun j => rkC co j = r) (n := (co 0 1).toNat) (by omega) (by omega) (by first | assumption | omega) hno_i
          refine v_iload_n X dX10_mostCredible_119 120 rfl 2 rfl ?_
          exfalso; omega
    · skip
      refine v_aload_n X dX10_mostCredible_28 29 rfl 3 rfl ?_
      refine v_getf X hM.C h_mo.1 inX10 0 rfl rfl 1 (by decide) kf_X10_9 (fun _ h => h) rfl dX10_mostCredible_29 32 rfl ?_
      refine v_iconst X dX10_mostCredible_32 33 rfl ?_
      refine v_iload X dX10_mostCredible_33 35 rfl 0 rfl ?_
      refine v_iadd X dX10_mostCredible_35 36 rfl ?_
      refine v_iald X hM.C h_mo.1 1 rfl (by omega) (by omega) (by omega) dX10_mostCredible_36 37 rfl ?_
      show V p l e (rmL 3 0 0) s m args below meth cd Q 7 H5 lo5 0 0 37 [(4, .int (zI (j : Int))), (3, .int (zI (sumZ (fun q => bz (mcC co q (i : Int))) j))), (2, .int (zI (i : Int))), (0, .ref b), (1, .int (zI r))] [.int (zI (mo 1 (4 + (j : Int))))]
      refine V_S (st' := [.int (zI (co 11 (j : Int)))]) (by rw [hR.w (by omega) (by omega)]) ?_
      refine v_aload_n X dX10_mostCredible_37 38 rfl 3 rfl ?_
      refine v_getf X hM.C h_mo.1 inX10 0 rfl rfl 1 (by decide) kf_X10_9 (fun _ h => h) rfl dX10_mostCredible_38 41 rfl ?_
      refine v_iconst X dX10_mostCredible_41 42 rfl ?_
      refine v_iload_n X dX10_mostCredible_42 43 rfl 2 rfl ?_
      refine v_iadd X dX10_mostCredible_43 44 rfl ?_
      refine v_iald X hM.C h_mo.1 1 rfl (by omega) (by omega) (by omega) dX10_mostCredible_44 45 rfl ?_
      show V p l e (rmL 3 0 0) s m args below meth cd Q 7 H5 lo5 0 0 45 [(4, .int (zI (j : Int))), (3, .int (zI (sumZ (fun q => bz (mcC co q (i : Int))) j))), (2, .int (zI (i : Int))), (0, .ref b), (1, .int (zI r))] [.int (zI (mo 1 (4 + (i : Int)))), .int (zI (co 11 (j : Int)))]
      refine V_S (st' := [.int (zI (co 11 (i : Int))), .int (zI (co 11 (j : Int)))]) (by rw [hR.w (by omega) (by omega)]) ?_
      refine v_isub X dX10_mostCredible_45 46 rfl ?_
      refine v_istore X dX10_mostCredible_46 48 rfl (by decide) (L' := [(5, .int (zI (co 11 (j : Int) - co 11 (i : Int)))), (4, .int (zI (j : Int))), (3, .int (zI (sumZ (fun q => bz (mcC co q (i : Int))) j))), (2, .int (zI (i : Int))), (0, .ref b), (1, .int (zI r))]) rfl ?_
      refine v_aload_n X dX10_mostCredible_48 49 rfl 4 rfl ?_
      refine v_iload X dX10_mostCredible_49 51 rfl 1 rfl ?_
      refine v_rdV X hM.C h_mo.1 (c_X10_casesBy l E b (updC mo 0 (updZ (mo 0) 0 tv)) co (j : Int) hO hR hI (by omega) (by omega)) kvX10_casesBy kiX10_casesBy kl_X10_134 rfl rfl (As := [.int (zI (j : Int))]) rfl rfl rfl dX10_mostCredible_51 54 rfl ?_
      show V p l e (rmL 3 0 0) s m args below meth cd Q 7 H5 lo5 0 0 54 [(5, .int (zI (co 11 (j : Int) - co 11 (i : Int)))), (4, .int (zI (j : Int))), (3, .int (zI (sumZ (fun q => bz (mcC co q (i : Int))) j))), (2, .int (zI (i : Int))), (0, .ref b), (1, .int (zI r))] [.int (zI (chC co (j : Int)))]
      have hf_12 := chC_b co (j : Int)
      refine v_aload_n X dX10_mostCredible_54 55 rfl 4 rfl ?_
      refine v_iload_n X dX10_mostCredible_55 56 rfl 3 rfl ?_
      refine v_rdV X hM.C h_mo.1 (c_X10_casesBy l E b (updC mo 0 (updZ (mo 0) 0 tv)) co (i : Int) hO hR hI (by omega) (by omega)) kvX10_casesBy kiX10_casesBy kl_X10_134 rfl rfl (As := [.int (zI (i : Int))]) rfl rfl rfl dX10_mostCredible_56 59 rfl ?_
      show V p l e (rmL 3 0 0) s m args below meth cd Q 7 H5 lo5 0 0 59 [(5, .int (zI (co 11 (j : Int) - co 11 (i : Int)))), (4, .int (zI (j : Int))), (3, .int (zI (sumZ (fun q => bz (mcC co q (i : Int))) j))), (2, .int (zI (i : Int))), (0, .ref b), (1, .int (zI r))] [.int (zI (chC co (i : Int))), .int (zI (chC co (j : Int)))]
      have hf_13 := chC_b co (i : Int)
      refine v_isub X dX10_mostCredible_59 60 rfl ?_
      refine v_istore X dX10_mostCredible_60 62 rfl (by decide) (L' := [(6, .int (zI (chC co (j : Int) - chC co (i : Int)))), (5, .int (zI (co 11 (j : Int) - co 11 (i : Int)))), (4, .int (zI (j : Int))), (3, .int (zI (sumZ (fun q => bz (mcC co q (i : Int))) j))), (2, .int (zI (i : Int))), (0, .ref b), (1, .int (zI r))]) rfl ?_
      refine v_iload_n X dX10_mostCredible_62 63 rfl 3 rfl ?_
      refine v_iload X dX10_mostCredible_63 65 rfl 1 rfl ?_
      have hb_15 := hO.b11 (j : Int)
      have hb_16 := hO.b11 (i : Int)
      refine v_if_gt X (by omega) dX10_mostCredible_65 68 89 rfl (by decide) (fun c_14 => ?_) (fun c_14 => ?_)
      · skip
        refine v_iconst X dX10_mostCredible_89 90 rfl ?_
        refine v_goto X dX10_mostCredible_90 94 (by decide) ?_
        refine v_iadd X dX10_mostCredible_94 95 rfl ?_
        refine v_istore_n X dX10_mostCredible_95 96 rfl rfl (by decide) (L' := [(3, .int (zI (sumZ (fun q => bz (mcC co q (i : Int))) j + 1))), (6, .int (zI (chC co (j : Int) - chC co (i : Int)))), (5, .int (zI (co 11 (j : Int) - co 11 (i : Int)))), (4, .int (zI (j : Int))), (2, .int (zI (i : Int))), (0, .ref b), (1, .int (zI r))]) rfl ?_
        refine v_iinc X dX10_mostCredible_96 99 rfl 3 rfl (by decide) (L' := [(4, .int (zI ((j : Int) + 1))), (3, .int (zI (sumZ (fun q => bz (mcC co q (i : Int))) j + 1))), (6, .int (zI (chC co (j : Int) - chC co (i : Int)))), (5, .int (zI (co 11 (j : Int) - co 11 (i : Int)))), (2, .int (zI (i : Int))), (0, .ref b), (1, .int (zI r))]) rfl ?_
        refine v_goto X dX10_mostCredible_99 17 (by decide) ?_
        refine v_locals [0, 1, 4, 5, 6] (L' := [(4, .int (zI ((j : Int) + 1))), (3, .int (zI (sumZ (fun q => bz (mcC co q (i : Int))) j + 1))), (2, .int (zI (i : Int))), (0, .ref b), (1, .int (zI r))]) rfl ?_
        exact V_L (L' := [(4, .int (zI ((j + 1 : Nat) : Int))), (3, .int (zI (sumZ (fun q => bz (mcC co q (i : Int))) (j + 1)))), (2, .int (zI (i : Int))), (0, .ref b), (1, .int (zI r))]) (LC (vz (by omega)) (LC (vz (by first | rw [sumZ_s, bz_t (φ := mcC co (j : Int) (i : Int)) (by unfold mcC; omega)] | (rw [sumZ_s, bz_f (φ := mcC co (j : Int) (i : Int)) (by unfold mcC; omega)] <;> omega))) (LC rfl (LC rfl (LC rfl rfl))))) (ih_j (by omega) _ _ hM h_mo)
      · skip
        refine v_iload X dX10_mostCredible_68 70 rfl 1 rfl ?_
        refine v_if_ne X (by omega) dX10_mostCredible_70 73 93 rfl (by decide) (fun c_17 => ?_) (fun c_17 => ?_)
        · skip
          refine v_iconst X dX10_mostCredible_93 94 rfl ?_
          refine v_iadd X dX10_mostCredible_94 95 rfl ?_
          refine v_istore_n X dX10_mostCredible_95 96 rfl rfl (by decide) (L' := [(3, .int (zI (sumZ (fun q => bz (mcC co q (i : Int))) j + 0))), (6, .int (zI (chC co (j : Int) - chC co (i : Int)))), (5, .int (zI (co 11 (j : Int) - co 11 (i : Int)))), (4, .int (zI (j : Int))), (2, .int (zI (i : Int))), (0, .ref b), (1, .int (zI r))]) rfl ?_
          refine v_iinc X dX10_mostCredible_96 99 rfl 3 rfl (by decide) (L' := [(4, .int (zI ((j : Int) + 1))), (3, .int (zI (sumZ (fun q => bz (mcC co q (i : Int))) j + 0))), (6, .int (zI (chC co (j : Int) - chC co (i : Int)))), (5, .int (zI (co 11 (j : Int) - co 11 (i : Int)))), (2, .int (zI (i : Int))), (0, .ref b), (1, .int (zI r))]) rfl ?_
          refine v_goto X dX10_mostCredible_99 17 (by decide) ?_
          refine v_locals [0, 1, 4, 5, 6] (L' := [(4, .int (zI ((j : Int) + 1))), (3, .int (zI (sumZ (fun q => bz (mcC co q (i : Int))) j + 0))), (2, .int (zI (i : Int))), (0, .ref b), (1, .int (zI r))]) rfl ?_
          exact V_L (L' := [(4, .int (zI ((j + 1 : Nat) : Int))), (3, .int (zI (sumZ (fun q => bz (mcC co q (i : Int))) (j + 1)))), (2, .int (zI (i : Int))), (0, .ref b), (1, .int (zI r))]) (LC (vz (by omega)) (LC (vz (by first | rw [sumZ_s, bz_t (φ := mcC co (j : Int) (i : Int)) (by unfold mcC; omega)] | (rw [sumZ_s, bz_f (φ := mcC co (j : Int) (i : Int)) (by unfold mcC; omega)] <;> omega))) (LC rfl (LC rfl (LC rfl rfl))))) (ih_j (by omega) _ _ hM h_mo)
        · skip
          refine v_iload X dX10_mostCredible_73 75 rfl 0 rfl ?_
          refine v_if_gt X (by omega) dX10_mostCredible_75 78 89 rfl (by decide) (fun c_18 => ?_) (fun c_18 => ?_)
          · skip
            refine v_iconst X dX10_mostCredible_89 90 rfl ?_
            refine v_goto X dX10_mostCredible_90 94 (by decide) ?_
            refine v_iadd X dX10_mostCredible_94 95 rfl ?_
            refine v_istore_n X dX10_mostCredible_95 96 rfl rfl (by decide) (L' := [(3, .int (zI (sumZ (fun q => bz (mcC co q (i : Int))) j + 1))), (6, .int (zI (chC co (j : Int) - chC co (i : Int)))), (5, .int (zI (co 11 (j : Int) - co 11 (i : Int)))), (4, .int (zI (j : Int))), (2, .int (zI (i : Int))), (0, .ref b), (1, .int (zI r))]) rfl ?_
            refine v_iinc X dX10_mostCredible_96 99 rfl 3 rfl (by decide) (L' := [(4, .int (zI ((j : Int) + 1))), (3, .int (zI (sumZ (fun q => bz (mcC co q (i : Int))) j + 1))), (6, .int (zI (chC co (j : Int) - chC co (i : Int)))), (5, .int (zI (co 11 (j : Int) - co 11 (i : Int)))), (2, .int (zI (i : Int))), (0, .ref b), (1, .int (zI r))]) rfl ?_
            refine v_goto X dX10_mostCredible_99 17 (by decide) ?_
            refine v_locals [0, 1, 4, 5, 6] (L' := [(4, .int (zI ((j : Int) + 1))), (3, .int (zI (sumZ (fun q => bz (mcC co q (i : Int))) j + 1))), (2, .int (zI (i : Int))), (0, .ref b), (1, .int (zI r))]) rfl ?_
            exact V_L (L' := [(4, .int (zI ((j + 1 : Nat) : Int))), (3, .int (zI (sumZ (fun q => bz (mcC co q (i : Int))) (j + 1)))), (2, .int (zI (i : Int))), (0, .ref b), (1, .int (zI r))]) (LC (vz (by omega)) (LC (vz (by first | rw [sumZ_s, bz_t (φ := mcC co (j : Int) (i : Int)) (by unfold mcC; omega)] | (rw [sumZ_s, bz_f (φ := mcC co (j : Int) (i : Int)) (by unfold mcC; omega)] <;> omega))) (LC rfl (LC rfl (LC rfl rfl))))) (ih_j (by omega) _ _ hM h_mo)
          · skip
            refine v_iload X dX10_mostCredible_78 80 rfl 0 rfl ?_
            refine v_if_ne X (by omega) dX10_mostCredible_80 83 93 rfl (by decide) (fun c_19 => ?_) (fun c_19 => ?_)
            · skip
              refine v_iconst X dX10_mostCredible_93 94 rfl ?_
              refine v_iadd X dX10_mostCredible_94 95 rfl ?_
              refine v_istore_n X dX10_mostCredible_95 96 rfl rfl (by decide) (L' := [(3, .int (zI (sumZ (fun q => bz (mcC co q (i : Int))) j + 0))), (6, .int (zI (chC co (j : Int) - chC co (i : Int)))), (5, .int (zI (co 11 (j : Int) - co 11 (i : Int)))), (4, .int (zI (j : Int))), (2, .int (zI (i : Int))), (0, .ref b), (1, .int (zI r))]) rfl ?_
              refine v_iinc X dX10_mostCredible_96 99 rfl 3 rfl (by decide) (L' := [(4, .int (zI ((j : Int) + 1))), (3, .int (zI (sumZ (fun q => bz (mcC co q (i : Int))) j + 0))), (6, .int (zI (chC co (j : Int) - chC co (i : Int)))), (5, .int (zI (co 11 (j : Int) - co 11 (i : Int)))), (2, .int (zI (i : Int))), (0, .ref b), (1, .int (zI r))]) rfl ?_
              refine v_goto X dX10_mostCredible_99 17 (by decide) ?_
              refine v_locals [0, 1, 4, 5, 6] (L' := [(4, .int (zI ((j : Int) + 1))), (3, .int (zI (sumZ (fun q => bz (mcC co q (i : Int))) j + 0))), (2, .int (zI (i : Int))), (0, .ref b), (1, .int (zI r))]) rfl ?_
              exact V_L (L' := [(4, .int (zI ((j + 1 : Nat) : Int))), (3, .int (zI (sumZ (fun q => bz (mcC co q (i : Int))) (j + 1)))), (2, .int (zI (i : Int))), (0, .ref b), (1, .int (zI r))]) (LC (vz (by omega)) (LC (vz (by first | rw [sumZ_s, bz_t (φ := mcC co (j : Int) (i : Int)) (by unfold mcC; omega)] | (rw [sumZ_s, bz_f (φ := mcC co (j : Int) (i : Int)) (by unfold mcC; omega)] <;> omega))) (LC rfl (LC rfl (LC rfl rfl))))) (ih_j (by omega) _ _ hM h_mo)
            · skip
              refine v_iload X dX10_mostCredible_83 85 rfl 2 rfl ?_
              refine v_iload_n X dX10_mostCredible_85 86 rfl 4 rfl ?_
              refine v_icmp_ge X (by omega) (by omega) dX10_mostCredible_86 89 93 rfl (by decide) (fun c_20 => ?_) (fun c_20 => ?_)
              · skip
                refine v_iconst X dX10_mostCredible_93 94 rfl ?_
                refine v_iadd X dX10_mostCredible_94 95 rfl ?_
                refine v_istore_n X dX10_mostCredible_95 96 rfl rfl (by decide) (L' := [(3, .int (zI (sumZ (fun q => bz (mcC co q (i : Int))) j + 0))), (6, .int (zI (chC co (j : Int) - chC co (i : Int)))), (5, .int (zI (co 11 (j : Int) - co 11 (i : Int)))), (4, .int (zI (j : Int))), (2, .int (zI (i : Int))), (0, .ref b), (1, .int (zI r))]) rfl ?_
                refine v_iinc X dX10_mostCredible_96 99 rfl 3 rfl (by decide) (L' := [(4, .int (zI ((j : Int) + 1))), (3, .int (zI (sumZ (fun q => bz (mcC co q (i : Int))) j + 0))), (6, .int (zI (chC co (j : Int) - chC co (i : Int)))), (5, .int (zI (co 11 (j : Int) - co 11 (i : Int)))), (2, .int (zI (i : Int))), (0, .ref b), (1, .int (zI r))]) rfl ?_
                refine v_goto X dX10_mostCredible_99 17 (by decide) ?_
                refine v_locals [0, 1, 4, 5, 6] (L' := [(4, .int (zI ((j : Int) + 1))), (3, .int (zI (sumZ (fun q => bz (mcC co q (i : Int))) j + 0))), (2, .int (zI (i : Int))), (0, .ref b), (1, .int (zI r))]) rfl ?_
                exact V_L (L' := [(4, .int (zI ((j + 1 : Nat) : Int))), (3, .int (zI (sumZ (fun q => bz (mcC co q (i : Int))) (j + 1)))), (2, .int (zI (i : Int))), (0, .ref b), (1, .int (zI r))]) (LC (vz (by omega)) (LC (vz (by first | rw [sumZ_s, bz_t (φ := mcC co (j : Int) (i : Int)) (by unfold mcC; omega)] | (rw [sumZ_s, bz_f (φ := mcC co (j : Int) (i : Int)) (by unfold mcC; omega)] <;> omega))) (LC rfl (LC rfl (LC rfl rfl))))) (ih_j (by omega) _ _ hM h_mo)
              · skip
                refine v_iconst X dX10_mostCredible_89 90 rfl ?_
                refine v_goto X dX10_mostCredible_90 94 (by decide) ?_
                refine v_iadd X dX10_mostCredible_94 95 rfl ?_
                refine v_istore_n X dX10_mostCredible_95 96 rfl rfl (by decide) (L' := [(3, .int (zI (sumZ (fun q => bz (mcC co q (i : Int))) j + 1))), (6, .int (zI (chC co (j : Int) - chC co (i : Int)))), (5, .int (zI (co 11 (j : Int) - co 11 (i : Int)))), (4, .int (zI (j : Int))), (2, .int (zI (i : Int))), (0, .ref b), (1, .int (zI r))]) rfl ?_
                refine v_iinc X dX10_mostCredible_96 99 rfl 3 rfl (by decide) (L' := [(4, .int (zI ((j : Int) + 1))), (3, .int (zI (sumZ (fun q => bz (mcC co q (i : Int))) j + 1))), (6, .int (zI (chC co (j : Int) - chC co (i : Int)))), (5, .int (zI (co 11 (j : Int) - co 11 (i : Int)))), (2, .int (zI (i : Int))), (0, .ref b), (1, .int (zI r))]) rfl ?_
                refine v_goto X dX10_mostCredible_99 17 (by decide) ?_
                refine v_locals [0, 1, 4, 5, 6] (L' := [(4, .int (zI ((j : Int) + 1))), (3, .int (zI (sumZ (fun q => bz (mcC co q (i : Int))) j + 1))), (2, .int (zI (i : Int))), (0, .ref b), (1, .int (zI r))]) rfl ?_
                exact V_L (L' := [(4, .int (zI ((j + 1 : Nat) : Int))), (3, .int (zI (sumZ (fun q => bz (mcC co q (i : Int))) (j + 1)))), (2, .int (zI (i : Int))), (0, .ref b), (1, .int (zI r))]) (LC (vz (by omega)) (LC (vz (by first | rw [sumZ_s, bz_t (φ := mcC co (j : Int) (i : Int)) (by unfold mcC; omega)] | (rw [sumZ_s, bz_f (φ := mcC co (j : Int) (i : Int)) (by unfold mcC; omega)] <;> omega))) (LC rfl (LC rfl (LC rfl rfl))))) (ih_j (by omega) _ _ hM h_mo)
set_option maxHeartbeats 4000000 in
set_option maxRecDepth 20000 in
theorem c_X10_agreement (l : Launch) (E : Nat → Nat → Nat) (b : Nat) (mo : Nat → Int → Int) (co : Nat → Int → Int) (w : Int) (y : Int) (hO : OkC co) (hR : RelC co (mo 1)) (hI : TsI co) (gw : Rg w) (gy : Rg y) (p0 : 0 ≤ w ∧ w < co 0 1) (p1 : 0 ≤ y ∧ y < co 0 1) : Mu l yX10_agreement cX10_agreement 7 (some .int) 2 0 0 E [(b, 5)] [.ref b, .int (zI w), .int (zI y)] (fun H => PR E b (modelW E b mo) H) (fun rv H => rv = some (.int (zI (sumZ (fun j => co 8 (j * 8 + w) * co 8 (j * 8 + y)) (co 0 0).toNat))) ∧ PR E b (modelW E b (updC mo 0 (updZ (mo 0) 0 0))) H) := by
  refine Mu.start (own := RX10) rfl (by decide +kernel) (Nat.le_of_ble_eq_true rfl) ?_
  intro p e s m below meth cd args Q hQ X hr hlk hnm hM hPr
  have h_mo := hPr
  have hb0 := hO.b0
  have hbw := hO.bw
  have hr0 := hR.s0
  have hr1 := hR.s1
  refine v_aload_n X dX10_agreement_0 1 rfl 0 rfl ?_
  refine v_aload_n X dX10_agreement_1 2 rfl 0 rfl ?_
  refine v_iload_n X dX10_agreement_2 3 rfl 1 rfl ?_
  refine v_rdV X hM.C h_mo.1 (c_X10_isWitness l E b mo co w hO hR gw) kvX10_isWitness kiX10_isWitness kl_X10_95 rfl rfl (As := [.int (zI w)]) rfl rfl rfl dX10_agreement_3 6 rfl ?_
  show V p l e (rmL 2 0 0) s m args below meth cd Q 7 s.heap [] 0 0 6 [(0, .ref b), (1, .int (zI w)), (2, .int (zI y))] [.int (zI (bz (0 ≤ w ∧ w < co 0 1))), .ref b]
  refine v_bif_eq X dX10_agreement_6 9 21 rfl (by decide) (fun c_1 => ?_) (fun c_1 => ?_)
  · skip
    exfalso; first | omega | contradiction
  · skip
    refine v_aload_n X dX10_agreement_9 10 rfl 0 rfl ?_
    refine v_iload_n X dX10_agreement_10 11 rfl 2 rfl ?_
    refine v_rdV X hM.C h_mo.1 (c_X10_isWitness l E b mo co y hO hR gy) kvX10_isWitness kiX10_isWitness kl_X10_95 rfl rfl (As := [.int (zI y)]) rfl rfl rfl dX10_agreement_11 14 rfl ?_
    show V p l e (rmL 2 0 0) s m args below meth cd Q 7 s.heap [] 0 0 14 [(0, .ref b), (1, .int (zI w)), (2, .int (zI y))] [.int (zI (bz (0 ≤ y ∧ y < co 0 1))), .ref b]
    refine v_bif_eq X dX10_agreement_14 17 21 rfl (by decide) (fun c_2 => ?_) (fun c_2 => ?_)
    · skip
      exfalso; first | omega | contradiction
    · skip
      refine v_iconst X dX10_agreement_17 18 rfl ?_
      refine v_goto X dX10_agreement_18 22 (by decide) ?_
      refine v_muV X hM (h_mo.1) (c_X10_isFine_1 l E b mo) kvX10_isFine kiX10_isFine kl_X10_124 (q0 := 0) rfl rfl (As := [.int (zI 1)]) rfl rfl rfl dX10_agreement_22 25 rfl (k' := 0) (n' := 0) rfl rfl (fsI (fun q q1 q2 => (Or.inl (fsH (by omega) (by omega))))) h_mo (fun rv H3 lo3 hM hF hpo => ?_)
      obtain ⟨rfl, hw_0⟩ := hpo
      have h_mo : PR E b (modelW E b (updC mo 0 (updZ (mo 0) 0 0))) H3 := hw_0
      show V p l e (rmL 2 0 0) s m args below meth cd Q 7 H3 lo3 0 0 25 [(0, .ref b), (1, .int (zI w)), (2, .int (zI y))] [.int (zI 1)]
      refine v_if_ne X (by omega) dX10_agreement_25 28 30 rfl (by decide) (fun c_4 => ?_) (fun c_4 => ?_)
      · skip
        refine v_iconst X dX10_agreement_30 31 rfl ?_
        refine v_istore_n X dX10_agreement_31 32 rfl rfl (by decide) (L' := [(3, .int (zI 0)), (0, .ref b), (1, .int (zI w)), (2, .int (zI y))]) rfl ?_
        refine v_iconst X dX10_agreement_32 33 rfl ?_
        refine v_istore X dX10_agreement_33 35 rfl (by decide) (L' := [(4, .int (zI 0)), (3, .int (zI 0)), (0, .ref b), (1, .int (zI w)), (2, .int (zI y))]) rfl ?_
        refine V_L (L' := [(4, .int (zI 0)), (3, .int (zI (sumZ (fun j => co 8 (j * 8 + w) * co 8 (j * 8 + y)) 0))), (0, .ref b), (1, .int (zI w)), (2, .int (zI y))]) (LC rfl (LC (vz (by rfl)) (LC rfl (LC rfl (LC rfl rfl))))) ?_
        refine up_loop ((co 0 0).toNat) (P := fun (i : Nat) => ∀ (H : Heap) (lo : List Loc), MS E [(b, 5)] s H lo → PR E b (modelW E b (updC mo 0 (updZ (mo 0) 0 0))) H → V p l e (rmL 2 0 0) s m args below meth cd Q 7 H lo 0 0 35 [(4, .int (zI (i : Int))), (3, .int (zI (sumZ (fun j => co 8 (j * 8 + w) * co 8 (j * 8 + y)) i))), (0, .ref b), (1, .int (zI w)), (2, .int (zI y))] []) (fun i hi_i ih_i H5 lo5 hM h_mo => ?_) _ _ hM h_mo
        refine v_iload X dX10_agreement_35 37 rfl 0 rfl ?_
        refine v_aload_n X dX10_agreement_37 38 rfl 2 rfl ?_
        refine v_getf X hM.C h_mo.1 inX10 0 rfl rfl 1 (by decide) kf_X10_9 (fun _ h => h) rfl dX10_agreement_38 41 rfl ?_
        refine v_iconst X dX10_agreement_41 42 rfl ?_
        refine v_iald X hM.C h_mo.1 1 rfl (by omega) (by omega) (by omega) dX10_agreement_42 43 rfl ?_
        show V p l e (rmL 2 0 0) s m args below meth cd Q 7 H5 lo5 0 0 43 [(4, .int (zI (i : Int))), (3, .int (zI (sumZ (fun j => co 8 (j * 8 + w) * co 8 (j * 8 + y)) i))), (0, .ref b), (1, .int (zI w)), (2, .int (zI y))] [.int (zI (mo 1 0)), .int (zI (i : Int))]
        have hb_7 := hR.s0
        refine v_icmp_ge X (by omega) (by omega) dX10_agreement_43 46 112 rfl (by decide) (fun c_6 => ?_) (fun c_6 => ?_)
        · skip
          refine v_iload_n X dX10_agreement_112 113 rfl 1 rfl ?_
          subst hQ; exact m_iret X hr hlk hM dX10_agreement_113 rfl ⟨(sv (by rw [show i = (co 0 0).toNat by omega])), h_mo⟩
        · skip
          refine v_aload_n X dX10_agreement_46 47 rfl 2 rfl ?_
          refine v_iload X dX10_agreement_47 49 rfl 0 rfl ?_
          refine v_iload_n X dX10_agreement_49 50 rfl 3 rfl ?_
          have hb_8 := hO.b0
          refine v_rdV X hM.C h_mo.1 (c_X10_spokenBy l E b (updC mo 0 (updZ (mo 0) 0 0)) co (i : Int) w hO hR (by omega) (by omega) gw) kvX10_spokenBy kiX10_spokenBy kl_X10_98 rfl rfl (As := [.int (zI (i : Int)), .int (zI w)]) rfl rfl rfl dX10_agreement_50 53 rfl ?_
          show V p l e (rmL 2 0 0) s m args below meth cd Q 7 H5 lo5 0 0 53 [(4, .int (zI (i : Int))), (3, .int (zI (sumZ (fun j => co 8 (j * 8 + w) * co 8 (j * 8 + y)) i))), (0, .ref b), (1, .int (zI w)), (2, .int (zI y))] [.int (zI (swC co (i : Int) w))]
          have hf_9 := swC_b hO (i : Int) w
          refine v_istore X dX10_agreement_53 55 rfl (by decide) (L' := [(5, .int (zI (swC co (i : Int) w))), (4, .int (zI (i : Int))), (3, .int (zI (sumZ (fun j => co 8 (j * 8 + w) * co 8 (j * 8 + y)) i))), (0, .ref b), (1, .int (zI w)), (2, .int (zI y))]) rfl ?_
          refine v_aload_n X dX10_agreement_55 56 rfl 3 rfl ?_
          refine v_iload X dX10_agreement_56 58 rfl 1 rfl ?_
          refine v_iload_n X dX10_agreement_58 59 rfl 5 rfl ?_
          refine v_rdV X hM.C h_mo.1 (c_X10_spokenBy l E b (updC mo 0 (updZ (mo 0) 0 0)) co (i : Int) y hO hR (by omega) (by omega) gy) kvX10_spokenBy kiX10_spokenBy kl_X10_98 rfl rfl (As := [.int (zI (i : Int)), .int (zI y)]) rfl rfl rfl dX10_agreement_59 62 rfl ?_
          show V p l e (rmL 2 0 0) s m args below meth cd Q 7 H5 lo5 0 0 62 [(5, .int (zI (swC co (i : Int) w))), (4, .int (zI (i : Int))), (3, .int (zI (sumZ (fun j => co 8 (j * 8 + w) * co 8 (j * 8 + y)) i))), (0, .ref b), (1, .int (zI w)), (2, .int (zI y))] [.int (zI (swC co (i : Int) y))]
          have hf_10 := swC_b hO (i : Int) y
          refine v_istore X dX10_agreement_62 64 rfl (by decide) (L' := [(6, .int (zI (swC co (i : Int) y))), (5, .int (zI (swC co (i : Int) w))), (4, .int (zI (i : Int))), (3, .int (zI (sumZ (fun j => co 8 (j * 8 + w) * co 8 (j * 8 + y)) i))), (0, .ref b), (1, .int (zI w)), (2, .int (zI y))]) rfl ?_
          have ha1 := agF (k := (i : Int)) (w := w) hO hI (by omega) (by omega) (by omega) (by omega)
          have ha2 := agF (k := (i : Int)) (w := y) hO hI (by omega) (by omega) (by omega) (by omega)
          refine v_iload X dX10_agreement_64 66 rfl 1 rfl ?_
          refine v_if_lt X (by omega) dX10_agreement_66 69 106 rfl (by decide) (fun c_11 => ?_) (fun c_11 => ?_)
          · skip
            refine v_iinc X dX10_agreement_106 109 rfl 2 rfl (by decide) (L' := [(4, .int (zI ((i : Int) + 1))), (6, .int (zI (swC co (i : Int) y))), (5, .int (zI (swC co (i : Int) w))), (3, .int (zI (sumZ (fun j => co 8 (j * 8 + w) * co 8 (j * 8 + y)) i))), (0, .ref b), (1, .int (zI w)), (2, .int (zI y))]) rfl ?_
            refine v_goto X dX10_agreement_109 35 (by decide) ?_
            refine v_locals [0, 3, 4, 5, 6] (L' := [(4, .int (zI ((i : Int) + 1))), (3, .int (zI (sumZ (fun j => co 8 (j * 8 + w) * co 8 (j * 8 + y)) i))), (0, .ref b), (1, .int (zI w)), (2, .int (zI y))]) rfl ?_
            exact V_L (L' := [(4, .int (zI ((i + 1 : Nat) : Int))), (3, .int (zI (sumZ (fun j => co 8 (j * 8 + w) * co 8 (j * 8 + y)) (i + 1)))), (0, .ref b), (1, .int (zI w)), (2, .int (zI y))]) (LC (vz (by omega)) (LC (vz (by first | (rw [sumZ_s, ha1.1 (by omega)]; omega) | (rw [sumZ_s, ha2.1 (by omega)]; omega) | (have g1 := ha1.2 (by omega); have g2 := ha2.2 (by omega); rcases g1.2 with e | e <;> rcases g2.2 with e2 | e2 <;> rw [sumZ_s, e, e2] <;> omega))) (LC rfl (LC rfl (LC rfl rfl))))) (ih_i (by omega) _ _ hM h_mo)
          · skip
            refine v_iload X dX10_agreement_69 71 rfl 0 rfl ?_
            refine v_if_ge X (by omega) dX10_agreement_71 74 77 rfl (by decide) (fun c_12 => ?_) (fun c_12 => ?_)
            · skip
              refine v_iload_n X dX10_agreement_77 78 rfl 3 rfl ?_
              refine v_aload_n X dX10_agreement_78 79 rfl 4 rfl ?_
              refine v_iload X dX10_agreement_79 81 rfl 2 rfl ?_
              refine v_iload X dX10_agreement_81 83 rfl 1 rfl ?_
              refine v_iconst X dX10_agreement_83 84 rfl ?_
              have hb_13 := hO.b6 (i : Int)
              refine v_rdV X hM.C h_mo.1 (c_X10_t_1 l E b (updC mo 0 (updZ (mo 0) 0 0)) co (i : Int) (swC co (i : Int) w) hO hR (by omega) (by omega) (by omega) (by omega)) kvX10_t kiX10_t kl_X10_51 rfl rfl (As := [.int (zI (i : Int)), .int (zI (swC co (i : Int) w)), .int (zI 1)]) rfl rfl rfl dX10_agreement_84 87 rfl ?_
              show V p l e (rmL 2 0 0) s m args below meth cd Q 7 H5 lo5 0 0 87 [(6, .int (zI (swC co (i : Int) y))), (5, .int (zI (swC co (i : Int) w))), (4, .int (zI (i : Int))), (3, .int (zI (sumZ (fun j => co 8 (j * 8 + w) * co 8 (j * 8 + y)) i))), (0, .ref b), (1, .int (zI w)), (2, .int (zI y))] [.int (zI ((sdC co (i : Int) (swC co (i : Int) w) + 1) / 2)), .int (zI (sumZ (fun j => co 8 (j * 8 + w) * co 8 (j * 8 + y)) i))]
              refine v_aload_n X dX10_agreement_87 88 rfl 4 rfl ?_
              refine v_iload X dX10_agreement_88 90 rfl 2 rfl ?_
              refine v_iload X dX10_agreement_90 92 rfl 0 rfl ?_
              refine v_iconst X dX10_agreement_92 93 rfl ?_
              refine v_rdV X hM.C h_mo.1 (c_X10_t_1 l E b (updC mo 0 (updZ (mo 0) 0 0)) co (i : Int) (swC co (i : Int) y) hO hR (by omega) (by omega) (by omega) (by omega)) kvX10_t kiX10_t kl_X10_51 rfl rfl (As := [.int (zI (i : Int)), .int (zI (swC co (i : Int) y)), .int (zI 1)]) rfl rfl rfl dX10_agreement_93 96 rfl ?_
              show V p l e (rmL 2 0 0) s m args below meth cd Q 7 H5 lo5 0 0 96 [(6, .int (zI (swC co (i : Int) y))), (5, .int (zI (swC co (i : Int) w))), (4, .int (zI (i : Int))), (3, .int (zI (sumZ (fun j => co 8 (j * 8 + w) * co 8 (j * 8 + y)) i))), (0, .ref b), (1, .int (zI w)), (2, .int (zI y))] [.int (zI ((sdC co (i : Int) (swC co (i : Int) y) + 1) / 2)), .int (zI ((sdC co (i : Int) (swC co (i : Int) w) + 1) / 2)), .int (zI (sumZ (fun j => co 8 (j * 8 + w) * co 8 (j * 8 + y)) i))]
              refine v_icmp_ne X (by omega) (by omega) dX10_agreement_96 99 103 rfl (by decide) (fun c_14 => ?_) (fun c_14 => ?_)
              · skip
                refine v_iconst X dX10_agreement_103 104 rfl ?_
                refine v_iadd X dX10_agreement_104 105 rfl ?_
                refine v_istore_n X dX10_agreement_105 106 rfl rfl (by decide) (L' := [(3, .int (zI (sumZ (fun j => co 8 (j * 8 + w) * co 8 (j * 8 + y)) i + (-1)))), (6, .int (zI (swC co (i : Int) y))), (5, .int (zI (swC co (i : Int) w))), (4, .int (zI (i : Int))), (0, .ref b), (1, .int (zI w)), (2, .int (zI y))]) rfl ?_
                refine v_iinc X dX10_agreement_106 109 rfl 3 rfl (by decide) (L' := [(4, .int (zI ((i : Int) + 1))), (3, .int (zI (sumZ (fun j => co 8 (j * 8 + w) * co 8 (j * 8 + y)) i + (-1)))), (6, .int (zI (swC co (i : Int) y))), (5, .int (zI (swC co (i : Int) w))), (0, .ref b), (1, .int (zI w)), (2, .int (zI y))]) rfl ?_
                refine v_goto X dX10_agreement_109 35 (by decide) ?_
                refine v_locals [0, 1, 4, 5, 6] (L' := [(4, .int (zI ((i : Int) + 1))), (3, .int (zI (sumZ (fun j => co 8 (j * 8 + w) * co 8 (j * 8 + y)) i + (-1)))), (0, .ref b), (1, .int (zI w)), (2, .int (zI y))]) rfl ?_
                exact V_L (L' := [(4, .int (zI ((i + 1 : Nat) : Int))), (3, .int (zI (sumZ (fun j => co 8 (j * 8 + w) * co 8 (j * 8 + y)) (i + 1)))), (0, .ref b), (1, .int (zI w)), (2, .int (zI y))]) (LC (vz (by omega)) (LC (vz (by first | (rw [sumZ_s, ha1.1 (by omega)]; omega) | (rw [sumZ_s, ha2.1 (by omega)]; omega) | (have g1 := ha1.2 (by omega); have g2 := ha2.2 (by omega); rcases g1.2 with e | e <;> rcases g2.2 with e2 | e2 <;> rw [sumZ_s, e, e2] <;> omega))) (LC rfl (LC rfl (LC rfl rfl))))) (ih_i (by omega) _ _ hM h_mo)
              · skip
                refine v_iconst X dX10_agreement_99 100 rfl ?_
                refine v_goto X dX10_agreement_100 104 (by decide) ?_
                refine v_iadd X dX10_agreement_104 105 rfl ?_
                refine v_istore_n X dX10_agreement_105 106 rfl rfl (by decide) (L' := [(3, .int (zI (sumZ (fun j => co 8 (j * 8 + w) * co 8 (j * 8 + y)) i + 1))), (6, .int (zI (swC co (i : Int) y))), (5, .int (zI (swC co (i : Int) w))), (4, .int (zI (i : Int))), (0, .ref b), (1, .int (zI w)), (2, .int (zI y))]) rfl ?_
                refine v_iinc X dX10_agreement_106 109 rfl 3 rfl (by decide) (L' := [(4, .int (zI ((i : Int) + 1))), (3, .int (zI (sumZ (fun j => co 8 (j * 8 + w) * co 8 (j * 8 + y)) i + 1))), (6, .int (zI (swC co (i : Int) y))), (5, .int (zI (swC co (i : Int) w))), (0, .ref b), (1, .int (zI w)), (2, .int (zI y))]) rfl ?_
                refine v_goto X dX10_agreement_109 35 (by decide) ?_
                refine v_locals [0, 1, 4, 5, 6] (L' := [(4, .int (zI ((i : Int) + 1))), (3, .int (zI (sumZ (fun j => co 8 (j * 8 + w) * co 8 (j * 8 + y)) i + 1))), (0, .ref b), (1, .int (zI w)), (2, .int (zI y))]) rfl ?_
                exact V_L (L' := [(4, .int (zI ((i + 1 : Nat) : Int))), (3, .int (zI (sumZ (fun j => co 8 (j * 8 + w) * co 8 (j * 8 + y)) (i + 1)))), (0, .ref b), (1, .int (zI w)), (2, .int (zI y))]) (LC (vz (by omega)) (LC (vz (by first | (rw [sumZ_s, ha1.1 (by omega)]; omega) | (rw [sumZ_s, ha2.1 (by omega)]; omega) | (have g1 := ha1.2 (by omega); have g2 := ha2.2 (by omega); rcases g1.2 with e | e <;> rcases g2.2 with e2 | e2 <;> rw [sumZ_s, e, e2] <;> omega))) (LC rfl (LC rfl (LC rfl rfl))))) (ih_i (by omega) _ _ hM h_mo)
            · skip
              refine v_goto X dX10_agreement_74 106 (by decide) ?_
              refine v_iinc X dX10_agreement_106 109 rfl 2 rfl (by decide) (L' := [(4, .int (zI ((i : Int) + 1))), (6, .int (zI (swC co (i : Int) y))), (5, .int (zI (swC co (i : Int) w))), (3, .int (zI (sumZ (fun j => co 8 (j * 8 + w) * co 8 (j * 8 + y)) i))), (0, .ref b), (1, .int (zI w)), (2, .int (zI y))]) rfl ?_
              refine v_goto X dX10_agreement_109 35 (by decide) ?_
              refine v_locals [0, 3, 4, 5, 6] (L' := [(4, .int (zI ((i : Int) + 1))), (3, .int (zI (sumZ (fun j => co 8 (j * 8 + w) * co 8 (j * 8 + y)) i))), (0, .ref b), (1, .int (zI w)), (2, .int (zI y))]) rfl ?_
              exact V_L (L' := [(4, .int (zI ((i + 1 : Nat) : Int))), (3, .int (zI (sumZ (fun j => co 8 (j * 8 + w) * co 8 (j * 8 + y)) (i + 1)))), (0, .ref b), (1, .int (zI w)), (2, .int (zI y))]) (LC (vz (by omega)) (LC (vz (by first | (rw [sumZ_s, ha1.1 (by omega)]; omega) | (rw [sumZ_s, ha2.1 (by omega)]; omega) | (have g1 := ha1.2 (by omega); have g2 := ha2.2 (by omega); rcases g1.2 with e | e <;> rcases g2.2 with e2 | e2 <;> rw [sumZ_s, e, e2] <;> omega))) (LC rfl (LC rfl (LC rfl rfl))))) (ih_i (by omega) _ _ hM h_mo)
      · skip
        exfalso; omega
set_option maxHeartbeats 4000000 in
set_option maxRecDepth 20000 in
theorem c_X10_agreement_0 (l : Launch) (E : Nat → Nat → Nat) (b : Nat) (mo : Nat → Int → Int) (co : Nat → Int → Int) (w : Int) (y : Int) (hO : OkC co) (hR : RelC co (mo 1)) (hI : TsI co) (gw : Rg w) (gy : Rg y) (nk : ¬ (0 ≤ w ∧ w < co 0 1)) : Mu l yX10_agreement cX10_agreement 7 (some .int) 2 0 0 E [(b, 5)] [.ref b, .int (zI w), .int (zI y)] (fun H => PR E b (modelW E b mo) H) (fun rv H => rv = some (.int (zI 0)) ∧ PR E b (modelW E b (updC mo 0 (updZ (mo 0) 0 1))) H) := by
  refine Mu.start (own := RX10) rfl (by decide +kernel) (Nat.le_of_ble_eq_true rfl) ?_
  intro p e s m below meth cd args Q hQ X hr hlk hnm hM hPr
  have h_mo := hPr
  have hb0 := hO.b0
  have hbw := hO.bw
  have hr0 := hR.s0
  have hr1 := hR.s1
  refine v_aload_n X dX10_agreement_0 1 rfl 0 rfl ?_
  refine v_aload_n X dX10_agreement_1 2 rfl 0 rfl ?_
  refine v_iload_n X dX10_agreement_2 3 rfl 1 rfl ?_
  refine v_rdV X hM.C h_mo.1 (c_X10_isWitness l E b mo co w hO hR gw) kvX10_isWitness kiX10_isWitness kl_X10_95 rfl rfl (As := [.int (zI w)]) rfl rfl rfl dX10_agreement_3 6 rfl ?_
  show V p l e (rmL 2 0 0) s m args below meth cd Q 7 s.heap [] 0 0 6 [(0, .ref b), (1, .int (zI w)), (2, .int (zI y))] [.int (zI (bz (0 ≤ w ∧ w < co 0 1))), .ref b]
  refine v_bif_eq X dX10_agreement_6 9 21 rfl (by decide) (fun c_1 => ?_) (fun c_1 => ?_)
  · skip
    refine v_iconst X dX10_agreement_21 22 rfl ?_
    refine v_muV X hM (h_mo.1) (c_X10_isFine_0 l E b mo) kvX10_isFine kiX10_isFine kl_X10_124 (q0 := 0) rfl rfl (As := [.int (zI 0)]) rfl rfl rfl dX10_agreement_22 25 rfl (k' := 0) (n' := 0) rfl rfl (fsI (fun q q1 q2 => (Or.inl (fsH (by omega) (by omega))))) h_mo (fun rv H2 lo2 hM hF hpo => ?_)
    obtain ⟨rfl, hw_0⟩ := hpo
    have h_mo : PR E b (modelW E b (updC mo 0 (updZ (mo 0) 0 1))) H2 := hw_0
    show V p l e (rmL 2 0 0) s m args below meth cd Q 7 H2 lo2 0 0 25 [(0, .ref b), (1, .int (zI w)), (2, .int (zI y))] [.int (zI 0)]
    refine v_if_ne X (by omega) dX10_agreement_25 28 30 rfl (by decide) (fun c_3 => ?_) (fun c_3 => ?_)
    · skip
      exfalso; omega
    · skip
      refine v_iconst X dX10_agreement_28 29 rfl ?_
      subst hQ; exact m_iret X hr hlk hM dX10_agreement_29 rfl ⟨rfl, h_mo⟩
  · skip
    exfalso; first | omega | contradiction
set_option maxHeartbeats 4000000 in
set_option maxRecDepth 20000 in
theorem c_X10_agreement_1 (l : Launch) (E : Nat → Nat → Nat) (b : Nat) (mo : Nat → Int → Int) (co : Nat → Int → Int) (w : Int) (y : Int) (hO : OkC co) (hR : RelC co (mo 1)) (hI : TsI co) (gw : Rg w) (gy : Rg y) (p0 : 0 ≤ w ∧ w < co 0 1) (nk : ¬ (0 ≤ y ∧ y < co 0 1)) : Mu l yX10_agreement cX10_agreement 7 (some .int) 2 0 0 E [(b, 5)] [.ref b, .int (zI w), .int (zI y)] (fun H => PR E b (modelW E b mo) H) (fun rv H => rv = some (.int (zI 0)) ∧ PR E b (modelW E b (updC mo 0 (updZ (mo 0) 0 1))) H) := by
  refine Mu.start (own := RX10) rfl (by decide +kernel) (Nat.le_of_ble_eq_true rfl) ?_
  intro p e s m below meth cd args Q hQ X hr hlk hnm hM hPr
  have h_mo := hPr
  have hb0 := hO.b0
  have hbw := hO.bw
  have hr0 := hR.s0
  have hr1 := hR.s1
  refine v_aload_n X dX10_agreement_0 1 rfl 0 rfl ?_
  refine v_aload_n X dX10_agreement_1 2 rfl 0 rfl ?_
  refine v_iload_n X dX10_agreement_2 3 rfl 1 rfl ?_
  refine v_rdV X hM.C h_mo.1 (c_X10_isWitness l E b mo co w hO hR gw) kvX10_isWitness kiX10_isWitness kl_X10_95 rfl rfl (As := [.int (zI w)]) rfl rfl rfl dX10_agreement_3 6 rfl ?_
  show V p l e (rmL 2 0 0) s m args below meth cd Q 7 s.heap [] 0 0 6 [(0, .ref b), (1, .int (zI w)), (2, .int (zI y))] [.int (zI (bz (0 ≤ w ∧ w < co 0 1))), .ref b]
  refine v_bif_eq X dX10_agreement_6 9 21 rfl (by decide) (fun c_1 => ?_) (fun c_1 => ?_)
  · skip
    exfalso; first | omega | contradiction
  · skip
    refine v_aload_n X dX10_agreement_9 10 rfl 0 rfl ?_
    refine v_iload_n X dX10_agreement_10 11 rfl 2 rfl ?_
    refine v_rdV X hM.C h_mo.1 (c_X10_isWitness l E b mo co y hO hR gy) kvX10_isWitness kiX10_isWitness kl_X10_95 rfl rfl (As := [.int (zI y)]) rfl rfl rfl dX10_agreement_11 14 rfl ?_
    show V p l e (rmL 2 0 0) s m args below meth cd Q 7 s.heap [] 0 0 14 [(0, .ref b), (1, .int (zI w)), (2, .int (zI y))] [.int (zI (bz (0 ≤ y ∧ y < co 0 1))), .ref b]
    refine v_bif_eq X dX10_agreement_14 17 21 rfl (by decide) (fun c_2 => ?_) (fun c_2 => ?_)
    · skip
      refine v_iconst X dX10_agreement_21 22 rfl ?_
      refine v_muV X hM (h_mo.1) (c_X10_isFine_0 l E b mo) kvX10_isFine kiX10_isFine kl_X10_124 (q0 := 0) rfl rfl (As := [.int (zI 0)]) rfl rfl rfl dX10_agreement_22 25 rfl (k' := 0) (n' := 0) rfl rfl (fsI (fun q q1 q2 => (Or.inl (fsH (by omega) (by omega))))) h_mo (fun rv H3 lo3 hM hF hpo => ?_)
      obtain ⟨rfl, hw_0⟩ := hpo
      have h_mo : PR E b (modelW E b (updC mo 0 (updZ (mo 0) 0 1))) H3 := hw_0
      show V p l e (rmL 2 0 0) s m args below meth cd Q 7 H3 lo3 0 0 25 [(0, .ref b), (1, .int (zI w)), (2, .int (zI y))] [.int (zI 0)]
      refine v_if_ne X (by omega) dX10_agreement_25 28 30 rfl (by decide) (fun c_4 => ?_) (fun c_4 => ?_)
      · skip
        exfalso; omega
      · skip
        refine v_iconst X dX10_agreement_28 29 rfl ?_
        subst hQ; exact m_iret X hr hlk hM dX10_agreement_29 rfl ⟨rfl, h_mo⟩
    · skip
      exfalso; first | omega | contradiction
set_option maxHeartbeats 4000000 in
set_option maxRecDepth 20000 in
theorem c_X10_firmAnswersToGuilty (l : Launch) (E : Nat → Nat → Nat) (b : Nat) (mo : Nat → Int → Int) (co : Nat → Int → Int) (k : Int) (w : Int) (hO : OkC co) (hR : RelC co (mo 1)) (hI : TsI co) (gk : Rg k) (gw : Rg w) (p0 : 0 ≤ k ∧ k < co 0 0) (p1 : 0 ≤ w ∧ w < co 0 1) (p2 : 0 < co 9 (k * 8 + w)) (p3 : 0 ≤ faC co k w) : Mu l yX10_firmAnswersToGuilty cX10_firmAnswersToGuilty 6 (some .int) 4 0 0 E [(b, 5)] [.ref b, .int (zI k), .int (zI w)] (fun H => PR E b (modelW E b mo) H) (fun rv H => rv = some (.int (zI (faC co k w))) ∧ PR E b (modelW E b (updC mo 0 (updZ (mo 0) 0 0))) H) := by
  refine Mu.start (own := RX10) rfl (by decide +kernel) (Nat.le_of_ble_eq_true rfl) ?_
  intro p e s m below meth cd args Q hQ X hr hlk hnm hM hPr
  have h_mo := hPr
  have hb0 := hO.b0
  have hbw := hO.bw
  have hr0 := hR.s0
  have hr1 := hR.s1
  have hb11 := hO.b11 w
  have hsp := swC_iff (co := co) (k := k) (w := w) hO hI (by omega) (by omega) (by omega) (by omega)
  have hag := (agF (k := k) (w := w) hO hI (by omega) (by omega) (by omega) (by omega)).2 (by omega)
  refine v_aload_n X dX10_firmAnswersToGuilty_0 1 rfl 0 rfl ?_
  refine v_aload_n X dX10_firmAnswersToGuilty_1 2 rfl 0 rfl ?_
  refine v_iload_n X dX10_firmAnswersToGuilty_2 3 rfl 1 rfl ?_
  refine v_rdV X hM.C h_mo.1 (c_X10_isCase l E b mo co k hO hR gk) kvX10_isCase kiX10_isCase kl_X10_92 rfl rfl (As := [.int (zI k)]) rfl rfl rfl dX10_firmAnswersToGuilty_3 6 rfl ?_
  show V p l e (rmL 4 0 0) s m args below meth cd Q 6 s.heap [] 0 0 6 [(0, .ref b), (1, .int (zI k)), (2, .int (zI w))] [.int (zI (bz (0 ≤ k ∧ k < co 0 0))), .ref b]
  refine v_bif_eq X dX10_firmAnswersToGuilty_6 9 17 rfl (by decide) (fun c_1 => ?_) (fun c_1 => ?_)
  · skip
    exfalso; first | omega | contradiction
  · skip
    refine v_aload_n X dX10_firmAnswersToGuilty_9 10 rfl 0 rfl ?_
    refine v_iload_n X dX10_firmAnswersToGuilty_10 11 rfl 2 rfl ?_
    refine v_rdV X hM.C h_mo.1 (c_X10_isWitness l E b mo co w hO hR gw) kvX10_isWitness kiX10_isWitness kl_X10_95 rfl rfl (As := [.int (zI w)]) rfl rfl rfl dX10_firmAnswersToGuilty_11 14 rfl ?_
    show V p l e (rmL 4 0 0) s m args below meth cd Q 6 s.heap [] 0 0 14 [(0, .ref b), (1, .int (zI k)), (2, .int (zI w))] [.int (zI (bz (0 ≤ w ∧ w < co 0 1))), .ref b]
    refine v_bif_ne X dX10_firmAnswersToGuilty_14 17 21 rfl (by decide) (fun c_2 => ?_) (fun c_2 => ?_)
    · skip
      refine v_aload_n X dX10_firmAnswersToGuilty_21 22 rfl 0 rfl ?_
      refine v_iload_n X dX10_firmAnswersToGuilty_22 23 rfl 1 rfl ?_
      refine v_iload_n X dX10_firmAnswersToGuilty_23 24 rfl 2 rfl ?_
      have hb_3 := hO.b0
      refine v_rdV X hM.C h_mo.1 (c_X10_spokenBy l E b mo co k w hO hR (by omega) (by omega) gw) kvX10_spokenBy kiX10_spokenBy kl_X10_98 rfl rfl (As := [.int (zI k), .int (zI w)]) rfl rfl rfl dX10_firmAnswersToGuilty_24 27 rfl ?_
      show V p l e (rmL 4 0 0) s m args below meth cd Q 6 s.heap [] 0 0 27 [(0, .ref b), (1, .int (zI k)), (2, .int (zI w))] [.int (zI (swC co k w)), .ref b]
      have hf_4 := swC_b hO k w
      refine v_if_ge X (by omega) dX10_firmAnswersToGuilty_27 30 34 rfl (by decide) (fun c_5 => ?_) (fun c_5 => ?_)
      · skip
        refine v_iconst X dX10_firmAnswersToGuilty_34 35 rfl ?_
        refine v_putf X hM h_mo ftX10 0 rfl rfl 0 (by decide) kf_X10_30 (fun _ h => h) rfl rfl rfl (Nat.le_of_ble_eq_true rfl) (Or.inl (fsH (by omega) (by omega))) dX10_firmAnswersToGuilty_35 38 rfl (ws' := modelW E b (updC mo 0 (updZ (mo 0) 0 0))) rfl (fun H6 lo6 hzz hM hF h_mo => ?_)
        clear hzz
        refine v_aload_n X dX10_firmAnswersToGuilty_38 39 rfl 0 rfl ?_
        refine v_getf X hM.C h_mo.1 inX10 0 rfl rfl 0 (by decide) kf_X10_30 (fun _ h => h) rfl dX10_firmAnswersToGuilty_39 42 rfl ?_
        show V p l e (rmL 4 0 0) s m args below meth cd Q 6 H6 lo6 0 0 42 [(0, .ref b), (1, .int (zI k)), (2, .int (zI w))] [.int (zI 0)]
        refine v_if_eq X (by omega) dX10_firmAnswersToGuilty_42 45 47 rfl (by decide) (fun c_7 => ?_) (fun c_7 => ?_)
        · skip
          refine v_aload_n X dX10_firmAnswersToGuilty_47 48 rfl 0 rfl ?_
          refine v_iload_n X dX10_firmAnswersToGuilty_48 49 rfl 1 rfl ?_
          refine v_iload_n X dX10_firmAnswersToGuilty_49 50 rfl 2 rfl ?_
          refine v_rdV X hM.C h_mo.1 (c_X10_spokenBy l E b (updC mo 0 (updZ (mo 0) 0 0)) co k w hO hR (by omega) (by omega) gw) kvX10_spokenBy kiX10_spokenBy kl_X10_98 rfl rfl (As := [.int (zI k), .int (zI w)]) rfl rfl rfl dX10_firmAnswersToGuilty_50 53 rfl ?_
          show V p l e (rmL 4 0 0) s m args below meth cd Q 6 H6 lo6 0 0 53 [(0, .ref b), (1, .int (zI k)), (2, .int (zI w))] [.int (zI (swC co k w))]
          have hf_8 := swC_b hO k w
          refine v_istore_n X dX10_firmAnswersToGuilty_53 54 rfl rfl (by decide) (L' := [(3, .int (zI (swC co k w))), (0, .ref b), (1, .int (zI k)), (2, .int (zI w))]) rfl ?_
          refine v_aload_n X dX10_firmAnswersToGuilty_54 55 rfl 1 rfl ?_
          refine v_iload_n X dX10_firmAnswersToGuilty_55 56 rfl 2 rfl ?_
          refine v_iload_n X dX10_firmAnswersToGuilty_56 57 rfl 0 rfl ?_
          refine v_iconst X dX10_firmAnswersToGuilty_57 58 rfl ?_
          have hb_9 := hO.b6 k
          refine v_rdV X hM.C h_mo.1 (c_X10_t_2 l E b (updC mo 0 (updZ (mo 0) 0 0)) co k (swC co k w) hO hR (by omega) (by omega) (by omega) (by omega)) kvX10_t kiX10_t kl_X10_51 rfl rfl (As := [.int (zI k), .int (zI (swC co k w)), .int (zI 2)]) rfl rfl rfl dX10_firmAnswersToGuilty_58 61 rfl ?_
          show V p l e (rmL 4 0 0) s m args below meth cd Q 6 H6 lo6 0 0 61 [(3, .int (zI (swC co k w))), (0, .ref b), (1, .int (zI k)), (2, .int (zI w))] [.int (zI (co 9 (k * 8 + co 7 (k * 6 + (swC co k w)))))]
          have hb_10 := hO.b9 (k * 8 + co 7 (k * 6 + (swC co k w)))
          have hb_11 := hO.b7 (k * 6 + (swC co k w))
          refine v_aload_n X dX10_firmAnswersToGuilty_61 62 rfl 1 rfl ?_
          refine v_iload_n X dX10_firmAnswersToGuilty_62 63 rfl 2 rfl ?_
          refine v_iload_n X dX10_firmAnswersToGuilty_63 64 rfl 0 rfl ?_
          refine v_iconst X dX10_firmAnswersToGuilty_64 65 rfl ?_
          refine v_rdV X hM.C h_mo.1 (c_X10_t_1 l E b (updC mo 0 (updZ (mo 0) 0 0)) co k (swC co k w) hO hR (by omega) (by omega) (by omega) (by omega)) kvX10_t kiX10_t kl_X10_51 rfl rfl (As := [.int (zI k), .int (zI (swC co k w)), .int (zI 1)]) rfl rfl rfl dX10_firmAnswersToGuilty_65 68 rfl ?_
          show V p l e (rmL 4 0 0) s m args below meth cd Q 6 H6 lo6 0 0 68 [(3, .int (zI (swC co k w))), (0, .ref b), (1, .int (zI k)), (2, .int (zI w))] [.int (zI ((sdC co k (swC co k w) + 1) / 2)), .int (zI (co 9 (k * 8 + co 7 (k * 6 + (swC co k w)))))]
          refine v_iconst X dX10_firmAnswersToGuilty_68 69 rfl ?_
          refine v_icmp_ne X (by omega) (by omega) dX10_firmAnswersToGuilty_69 72 76 rfl (by decide) (fun c_12 => ?_) (fun c_12 => ?_)
          · skip
            refine v_iconst X dX10_firmAnswersToGuilty_76 77 rfl ?_
            refine v_imul X dX10_firmAnswersToGuilty_77 78 rfl ?_
            refine v_istore X dX10_firmAnswersToGuilty_78 80 rfl (by decide) (L' := [(4, .int (zI ((co 9 (k * 8 + co 7 (k * 6 + (swC co k w)))) * (-1)))), (3, .int (zI (swC co k w))), (0, .ref b), (1, .int (zI k)), (2, .int (zI w))]) rfl ?_
            refine V_L (L' := [(4, .int (zI (co 8 (k * 8 + w) * co 9 (k * 8 + w)))), (3, .int (zI (swC co k w))), (0, .ref b), (1, .int (zI k)), (2, .int (zI w))]) (LC (vz (by rw [swC_at (co := co) (k := k) (w := w) (by omega), show co 8 (k * 8 + w) = -1 by omega]; omega)) (LC rfl (LC rfl (LC rfl (LC rfl rfl))))) ?_
            refine v_iconst X dX10_firmAnswersToGuilty_80 81 rfl ?_
            refine v_istore X dX10_firmAnswersToGuilty_81 83 rfl (by decide) (L' := [(5, .int (zI 0)), (4, .int (zI (co 8 (k * 8 + w) * co 9 (k * 8 + w)))), (3, .int (zI (swC co k w))), (0, .ref b), (1, .int (zI k)), (2, .int (zI w))]) rfl ?_
            refine V_L (L' := [(5, .int (zI 0)), (4, .int (zI (co 8 (k * 8 + w) * co 9 (k * 8 + w)))), (3, .int (zI (swC co k w))), (0, .ref b), (1, .int (zI k)), (2, .int (zI w))]) (LC rfl (LC rfl (LC rfl (LC rfl (LC rfl (LC rfl rfl)))))) ?_
            refine up_loop ((9 - co 11 w + 1).toNat) (P := fun (i : Nat) => (∀ j : Int, 0 ≤ j → j < (i : Int) → ¬ (0 < mgC co k + j * (co 8 (k * 8 + w) * co 9 (k * 8 + w)))) → ∀ (H : Heap) (lo : List Loc), MS E [(b, 5)] s H lo → PR E b (modelW E b (updC mo 0 (updZ (mo 0) 0 0))) H → V p l e (rmL 4 0 0) s m args below meth cd Q 6 H lo 0 0 83 [(5, .int (zI (i : Int))), (4, .int (zI (co 8 (k * 8 + w) * co 9 (k * 8 + w)))), (3, .int (zI (swC co k w))), (0, .ref b), (1, .int (zI k)), (2, .int (zI w))] []) (fun i hi_i ih_i hno_i H13 lo13 hM h_mo => ?_) (fun j a b => absurd b (by omega)) _ _ hM h_mo
            have hfm := mul_b (a := (i : Int)) (A := 10) (b := co 8 (k * 8 + w) * co 9 (k * 8 + w)) (B := 5) (by omega) (by omega) (sgn_b (hO.b8 _).1 (hO.b8 _).2 (hO.b9 _).1 (hO.b9 _).2).1 (sgn_b (hO.b8 _).1 (hO.b8 _).2 (hO.b9 _).1 (hO.b9 _).2).2 (by decide) (by decide)
            refine v_iload X dX10_firmAnswersToGuilty_83 85 rfl 0 rfl ?_
            refine v_bipush X dX10_firmAnswersToGuilty_85 87 rfl rfl ?_
            refine v_aload_n X dX10_firmAnswersToGuilty_87 88 rfl 3 rfl ?_
            refine v_getf X hM.C h_mo.1 inX10 0 rfl rfl 1 (by decide) kf_X10_9 (fun _ h => h) rfl dX10_firmAnswersToGuilty_88 91 rfl ?_
            refine v_iconst X dX10_firmAnswersToGuilty_91 92 rfl ?_
            refine v_iload_n X dX10_firmAnswersToGuilty_92 93 rfl 5 rfl ?_
            refine v_iadd X dX10_firmAnswersToGuilty_93 94 rfl ?_
            refine v_iald X hM.C h_mo.1 1 rfl (by omega) (by omega) (by omega) dX10_firmAnswersToGuilty_94 95 rfl ?_
            show V p l e (rmL 4 0 0) s m args below meth cd Q 6 H13 lo13 0 0 95 [(5, .int (zI (i : Int))), (4, .int (zI (co 8 (k * 8 + w) * co 9 (k * 8 + w)))), (3, .int (zI (swC co k w))), (0, .ref b), (1, .int (zI k)), (2, .int (zI w))] [.int (zI (mo 1 (4 + w))), .int (zI 9), .int (zI (i : Int))]
            refine V_S (st' := [.int (zI (co 11 w)), .int (zI 9), .int (zI (i : Int))]) (by rw [hR.w (by omega) (by omega)]) ?_
            refine v_isub X dX10_firmAnswersToGuilty_95 96 rfl ?_
            have hb_15 := hO.b11 w
            refine v_icmp_gt X (by omega) (by omega) dX10_firmAnswersToGuilty_96 99 122 rfl (by decide) (fun c_14 => ?_) (fun c_14 => ?_)
            · skip
              have hnz : faC co k w = -1 := firstZ_none (p := fun j => 0 < mgC co k + j * (co 8 (k * 8 + w) * co 9 (k * 8 + w))) (n := (9 - co 11 w + 1).toNat) (fun j a b => hno_i j a (by omega))
              refine v_aload_n X dX10_firmAnswersToGuilty_122 123 rfl 3 rfl ?_
              refine v_iconst X dX10_firmAnswersToGuilty_123 124 rfl ?_
              refine v_putf X hM h_mo ftX10 0 rfl rfl 0 (by decide) kf_X10_30 (fun _ h => h) rfl rfl rfl (Nat.le_of_ble_eq_true rfl) (Or.inl (fsH (by omega) (by omega))) dX10_firmAnswersToGuilty_124 127 rfl (ws' := modelW E b (updC mo 0 (updZ (mo 0) 0 2))) rfl (fun H16 lo16 hzz hM hF h_mo => ?_)
              clear hzz
              refine v_iconst X dX10_firmAnswersToGuilty_127 128 rfl ?_
              exfalso; omega
            · skip
              refine v_aload_n X dX10_firmAnswersToGuilty_99 100 rfl 3 rfl ?_
              refine v_iload_n X dX10_firmAnswersToGuilty_100 101 rfl 4 rfl ?_
              refine v_rdV X hM.C h_mo.1 (c_X10_marginOf l E b (updC mo 0 (updZ (mo 0) 0 0)) co k hO hR hI (by omega) (by omega)) kvX10_marginOf kiX10_marginOf kl_X10_109 rfl rfl (As := [.int (zI k)]) rfl rfl rfl dX10_firmAnswersToGuilty_101 104 rfl ?_
              show V p l e (rmL 4 0 0) s m args below meth cd Q 6 H13 lo13 0 0 104 [(5, .int (zI (i : Int))), (4, .int (zI (co 8 (k * 8 + w) * co 9 (k * 8 + w)))), (3, .int (zI (swC co k w))), (0, .ref b), (1, .int (zI k)), (2, .int (zI w))] [.int (zI (mgC co k))]
              have hf_17 := mgC_b hO k
              refine v_iload X dX10_firmAnswersToGuilty_104 106 rfl 0 rfl ?_
              refine v_iload X dX10_firmAnswersToGuilty_106 108 rfl 1 rfl ?_
              refine v_imul X dX10_firmAnswersToGuilty_108 109 rfl ?_
              refine v_iadd X dX10_firmAnswersToGuilty_109 110 rfl ?_
              have hb_19 := hO.b8 (k * 8 + w)
              have hb_20 := hO.b9 (k * 8 + w)
              refine v_if_le X (by omega) dX10_firmAnswersToGuilty_110 113 116 rfl (by decide) (fun c_18 => ?_) (fun c_18 => ?_)
              · skip
                refine v_iinc X dX10_firmAnswersToGuilty_116 119 rfl 0 rfl (by decide) (L' := [(5, .int (zI ((i : Int) + 1))), (4, .int (zI (co 8 (k * 8 + w) * co 9 (k * 8 + w)))), (3, .int (zI (swC co k w))), (0, .ref b), (1, .int (zI k)), (2, .int (zI w))]) rfl ?_
                refine v_goto X dX10_firmAnswersToGuilty_119 83 (by decide) ?_
                exact V_L (L' := [(5, .int (zI ((i + 1 : Nat) : Int))), (4, .int (zI (co 8 (k * 8 + w) * co 9 (k * 8 + w)))), (3, .int (zI (swC co k w))), (0, .ref b), (1, .int (zI k)), (2, .int (zI w))]) (LC (vz (by omega)) (LC rfl (LC rfl (LC rfl (LC rfl (LC rfl rfl)))))) (ih_i (by omega) (fun j a b => by
                  rcases (show j < (i : Int) ∨ (i : Int) ≤ j by omega) with q | q
                  · exact hno_i j a q
                  · have e : j = (i : Int) := by omega
                    subst e
                    first | assumption | omega) _ _ hM h_mo)
              · skip
                have hhz : faC co k w = (i : Int) := firstZ_hit (p := fun j => 0 < mgC co k + j * (co 8 (k * 8 + w) * co 9 (k * 8 + w))) (n := (9 - co 11 w + 1).toNat) (by omega) (by omega) (by first | assumption | omega) hno_i
                refine v_iload X dX10_firmAnswersToGuilty_113 115 rfl 0 rfl ?_
                subst hQ; exact m_iret X hr hlk hM dX10_firmAnswersToGuilty_115 rfl ⟨(sv (by omega)), h_mo⟩
          · skip
            refine v_iconst X dX10_firmAnswersToGuilty_72 73 rfl ?_
            refine v_goto X dX10_firmAnswersToGuilty_73 77 (by decide) ?_
            refine v_imul X dX10_firmAnswersToGuilty_77 78 rfl ?_
            refine v_istore X dX10_firmAnswersToGuilty_78 80 rfl (by decide) (L' := [(4, .int (zI ((co 9 (k * 8 + co 7 (k * 6 + (swC co k w)))) * 1))), (3, .int (zI (swC co k w))), (0, .ref b), (1, .int (zI k)), (2, .int (zI w))]) rfl ?_
            refine V_L (L' := [(4, .int (zI (co 8 (k * 8 + w) * co 9 (k * 8 + w)))), (3, .int (zI (swC co k w))), (0, .ref b), (1, .int (zI k)), (2, .int (zI w))]) (LC (vz (by rw [swC_at (co := co) (k := k) (w := w) (by omega), show co 8 (k * 8 + w) = 1 by omega]; omega)) (LC rfl (LC rfl (LC rfl (LC rfl rfl))))) ?_
            refine v_iconst X dX10_firmAnswersToGuilty_80 81 rfl ?_
            refine v_istore X dX10_firmAnswersToGuilty_81 83 rfl (by decide) (L' := [(5, .int (zI 0)), (4, .int (zI (co 8 (k * 8 + w) * co 9 (k * 8 + w)))), (3, .int (zI (swC co k w))), (0, .ref b), (1, .int (zI k)), (2, .int (zI w))]) rfl ?_
            refine V_L (L' := [(5, .int (zI 0)), (4, .int (zI (co 8 (k * 8 + w) * co 9 (k * 8 + w)))), (3, .int (zI (swC co k w))), (0, .ref b), (1, .int (zI k)), (2, .int (zI w))]) (LC rfl (LC rfl (LC rfl (LC rfl (LC rfl (LC rfl rfl)))))) ?_
            refine up_loop ((9 - co 11 w + 1).toNat) (P := fun (i : Nat) => (∀ j : Int, 0 ≤ j → j < (i : Int) → ¬ (0 < mgC co k + j * (co 8 (k * 8 + w) * co 9 (k * 8 + w)))) → ∀ (H : Heap) (lo : List Loc), MS E [(b, 5)] s H lo → PR E b (modelW E b (updC mo 0 (updZ (mo 0) 0 0))) H → V p l e (rmL 4 0 0) s m args below meth cd Q 6 H lo 0 0 83 [(5, .int (zI (i : Int))), (4, .int (zI (co 8 (k * 8 + w) * co 9 (k * 8 + w)))), (3, .int (zI (swC co k w))), (0, .ref b), (1, .int (zI k)), (2, .int (zI w))] []) (fun i hi_i ih_i hno_i H21 lo21 hM h_mo => ?_) (fun j a b => absurd b (by omega)) _ _ hM h_mo
            have hfm := mul_b (a := (i : Int)) (A := 10) (b := co 8 (k * 8 + w) * co 9 (k * 8 + w)) (B := 5) (by omega) (by omega) (sgn_b (hO.b8 _).1 (hO.b8 _).2 (hO.b9 _).1 (hO.b9 _).2).1 (sgn_b (hO.b8 _).1 (hO.b8 _).2 (hO.b9 _).1 (hO.b9 _).2).2 (by decide) (by decide)
            refine v_iload X dX10_firmAnswersToGuilty_83 85 rfl 0 rfl ?_
            refine v_bipush X dX10_firmAnswersToGuilty_85 87 rfl rfl ?_
            refine v_aload_n X dX10_firmAnswersToGuilty_87 88 rfl 3 rfl ?_
            refine v_getf X hM.C h_mo.1 inX10 0 rfl rfl 1 (by decide) kf_X10_9 (fun _ h => h) rfl dX10_firmAnswersToGuilty_88 91 rfl ?_
            refine v_iconst X dX10_firmAnswersToGuilty_91 92 rfl ?_
            refine v_iload_n X dX10_firmAnswersToGuilty_92 93 rfl 5 rfl ?_
            refine v_iadd X dX10_firmAnswersToGuilty_93 94 rfl ?_
            refine v_iald X hM.C h_mo.1 1 rfl (by omega) (by omega) (by omega) dX10_firmAnswersToGuilty_94 95 rfl ?_
            show V p l e (rmL 4 0 0) s m args below meth cd Q 6 H21 lo21 0 0 95 [(5, .int (zI (i : Int))), (4, .int (zI (co 8 (k * 8 + w) * co 9 (k * 8 + w)))), (3, .int (zI (swC co k w))), (0, .ref b), (1, .int (zI k)), (2, .int (zI w))] [.int (zI (mo 1 (4 + w))), .int (zI 9), .int (zI (i : Int))]
            refine V_S (st' := [.int (zI (co 11 w)), .int (zI 9), .int (zI (i : Int))]) (by rw [hR.w (by omega) (by omega)]) ?_
            refine v_isub X dX10_firmAnswersToGuilty_95 96 rfl ?_
            have hb_23 := hO.b11 w
            refine v_icmp_gt X (by omega) (by omega) dX10_firmAnswersToGuilty_96 99 122 rfl (by decide) (fun c_22 => ?_) (fun c_22 => ?_)
            · skip
              have hnz : faC co k w = -1 := firstZ_none (p := fun j => 0 < mgC co k + j * (co 8 (k * 8 + w) * co 9 (k * 8 + w))) (n := (9 - co 11 w + 1).toNat) (fun j a b => hno_i j a (by omega))
              refine v_aload_n X dX10_firmAnswersToGuilty_122 123 rfl 3 rfl ?_
              refine v_iconst X dX10_firmAnswersToGuilty_123 124 rfl ?_
              refine v_putf X hM h_mo ftX10 0 rfl rfl 0 (by decide) kf_X10_30 (fun _ h => h) rfl rfl rfl (Nat.le_of_ble_eq_true rfl) (Or.inl (fsH (by omega) (by omega))) dX10_firmAnswersToGuilty_124 127 rfl (ws' := modelW E b (updC mo 0 (updZ (mo 0) 0 2))) rfl (fun H24 lo24 hzz hM hF h_mo => ?_)
              clear hzz
              refine v_iconst X dX10_firmAnswersToGuilty_127 128 rfl ?_
              exfalso; omega
            · skip
              refine v_aload_n X dX10_firmAnswersToGuilty_99 100 rfl 3 rfl ?_
              refine v_iload_n X dX10_firmAnswersToGuilty_100 101 rfl 4 rfl ?_
              refine v_rdV X hM.C h_mo.1 (c_X10_marginOf l E b (updC mo 0 (updZ (mo 0) 0 0)) co k hO hR hI (by omega) (by omega)) kvX10_marginOf kiX10_marginOf kl_X10_109 rfl rfl (As := [.int (zI k)]) rfl rfl rfl dX10_firmAnswersToGuilty_101 104 rfl ?_
              show V p l e (rmL 4 0 0) s m args below meth cd Q 6 H21 lo21 0 0 104 [(5, .int (zI (i : Int))), (4, .int (zI (co 8 (k * 8 + w) * co 9 (k * 8 + w)))), (3, .int (zI (swC co k w))), (0, .ref b), (1, .int (zI k)), (2, .int (zI w))] [.int (zI (mgC co k))]
              have hf_25 := mgC_b hO k
              refine v_iload X dX10_firmAnswersToGuilty_104 106 rfl 0 rfl ?_
              refine v_iload X dX10_firmAnswersToGuilty_106 108 rfl 1 rfl ?_
              refine v_imul X dX10_firmAnswersToGuilty_108 109 rfl ?_
              refine v_iadd X dX10_firmAnswersToGuilty_109 110 rfl ?_
              have hb_27 := hO.b8 (k * 8 + w)
              have hb_28 := hO.b9 (k * 8 + w)
              refine v_if_le X (by omega) dX10_firmAnswersToGuilty_110 113 116 rfl (by decide) (fun c_26 => ?_) (fun c_26 => ?_)
              · skip
                refine v_iinc X dX10_firmAnswersToGuilty_116 119 rfl 0 rfl (by decide) (L' := [(5, .int (zI ((i : Int) + 1))), (4, .int (zI (co 8 (k * 8 + w) * co 9 (k * 8 + w)))), (3, .int (zI (swC co k w))), (0, .ref b), (1, .int (zI k)), (2, .int (zI w))]) rfl ?_
                refine v_goto X dX10_firmAnswersToGuilty_119 83 (by decide) ?_
                exact V_L (L' := [(5, .int (zI ((i + 1 : Nat) : Int))), (4, .int (zI (co 8 (k * 8 + w) * co 9 (k * 8 + w)))), (3, .int (zI (swC co k w))), (0, .ref b), (1, .int (zI k)), (2, .int (zI w))]) (LC (vz (by omega)) (LC rfl (LC rfl (LC rfl (LC rfl (LC rfl rfl)))))) (ih_i (by omega) (fun j a b => by
                  rcases (show j < (i : Int) ∨ (i : Int) ≤ j by omega) with q | q
                  · exact hno_i j a q
                  · have e : j = (i : Int) := by omega
                    subst e
                    first | assumption | omega) _ _ hM h_mo)
              · skip
                have hhz : faC co k w = (i : Int) := firstZ_hit (p := fun j => 0 < mgC co k + j * (co 8 (k * 8 + w) * co 9 (k * 8 + w))) (n := (9 - co 11 w + 1).toNat) (by omega) (by omega) (by first | assumption | omega) hno_i
                refine v_iload X dX10_firmAnswersToGuilty_113 115 rfl 0 rfl ?_
                subst hQ; exact m_iret X hr hlk hM dX10_firmAnswersToGuilty_115 rfl ⟨(sv (by omega)), h_mo⟩
        · skip
          exfalso; omega
      · skip
        refine v_iconst X dX10_firmAnswersToGuilty_30 31 rfl ?_
        refine v_goto X dX10_firmAnswersToGuilty_31 35 (by decide) ?_
        refine v_putf X hM h_mo ftX10 0 rfl rfl 0 (by decide) kf_X10_30 (fun _ h => h) rfl rfl rfl (Nat.le_of_ble_eq_true rfl) (Or.inl (fsH (by omega) (by omega))) dX10_firmAnswersToGuilty_35 38 rfl (ws' := modelW E b (updC mo 0 (updZ (mo 0) 0 2))) rfl (fun H29 lo29 hzz hM hF h_mo => ?_)
        clear hzz
        refine v_aload_n X dX10_firmAnswersToGuilty_38 39 rfl 0 rfl ?_
        refine v_getf X hM.C h_mo.1 inX10 0 rfl rfl 0 (by decide) kf_X10_30 (fun _ h => h) rfl dX10_firmAnswersToGuilty_39 42 rfl ?_
        show V p l e (rmL 4 0 0) s m args below meth cd Q 6 H29 lo29 0 0 42 [(0, .ref b), (1, .int (zI k)), (2, .int (zI w))] [.int (zI 2)]
        refine v_if_eq X (by omega) dX10_firmAnswersToGuilty_42 45 47 rfl (by decide) (fun c_30 => ?_) (fun c_30 => ?_)
        · skip
          exfalso; omega
        · skip
          refine v_iconst X dX10_firmAnswersToGuilty_45 46 rfl ?_
          exfalso; omega
    · skip
      exfalso; first | omega | contradiction
set_option maxHeartbeats 4000000 in
set_option maxRecDepth 20000 in
theorem c_X10_firmAnswersToGuilty_0 (l : Launch) (E : Nat → Nat → Nat) (b : Nat) (mo : Nat → Int → Int) (co : Nat → Int → Int) (k : Int) (w : Int) (hO : OkC co) (hR : RelC co (mo 1)) (hI : TsI co) (gk : Rg k) (gw : Rg w) (nk : ¬ (0 ≤ k ∧ k < co 0 0)) : Mu l yX10_firmAnswersToGuilty cX10_firmAnswersToGuilty 6 (some .int) 2 0 0 E [(b, 5)] [.ref b, .int (zI k), .int (zI w)] (fun H => PR E b (modelW E b mo) H) (fun rv H => rv = some (.int (zI 0)) ∧ PR E b (modelW E b (updC mo 0 (updZ (mo 0) 0 1))) H) := by
  refine Mu.start (own := RX10) rfl (by decide +kernel) (Nat.le_of_ble_eq_true rfl) ?_
  intro p e s m below meth cd args Q hQ X hr hlk hnm hM hPr
  have h_mo := hPr
  have hb0 := hO.b0
  have hbw := hO.bw
  have hr0 := hR.s0
  have hr1 := hR.s1
  refine v_aload_n X dX10_firmAnswersToGuilty_0 1 rfl 0 rfl ?_
  refine v_aload_n X dX10_firmAnswersToGuilty_1 2 rfl 0 rfl ?_
  refine v_iload_n X dX10_firmAnswersToGuilty_2 3 rfl 1 rfl ?_
  refine v_rdV X hM.C h_mo.1 (c_X10_isCase l E b mo co k hO hR gk) kvX10_isCase kiX10_isCase kl_X10_92 rfl rfl (As := [.int (zI k)]) rfl rfl rfl dX10_firmAnswersToGuilty_3 6 rfl ?_
  show V p l e (rmL 2 0 0) s m args below meth cd Q 6 s.heap [] 0 0 6 [(0, .ref b), (1, .int (zI k)), (2, .int (zI w))] [.int (zI (bz (0 ≤ k ∧ k < co 0 0))), .ref b]
  refine v_bif_eq X dX10_firmAnswersToGuilty_6 9 17 rfl (by decide) (fun c_1 => ?_) (fun c_1 => ?_)
  · skip
    refine v_iconst X dX10_firmAnswersToGuilty_17 18 rfl ?_
    refine v_goto X dX10_firmAnswersToGuilty_18 35 (by decide) ?_
    refine v_putf X hM h_mo ftX10 0 rfl rfl 0 (by decide) kf_X10_30 (fun _ h => h) rfl rfl rfl (Nat.le_of_ble_eq_true rfl) (Or.inl (fsH (by omega) (by omega))) dX10_firmAnswersToGuilty_35 38 rfl (ws' := modelW E b (updC mo 0 (updZ (mo 0) 0 1))) rfl (fun H2 lo2 hzz hM hF h_mo => ?_)
    clear hzz
    refine v_aload_n X dX10_firmAnswersToGuilty_38 39 rfl 0 rfl ?_
    refine v_getf X hM.C h_mo.1 inX10 0 rfl rfl 0 (by decide) kf_X10_30 (fun _ h => h) rfl dX10_firmAnswersToGuilty_39 42 rfl ?_
    show V p l e (rmL 2 0 0) s m args below meth cd Q 6 H2 lo2 0 0 42 [(0, .ref b), (1, .int (zI k)), (2, .int (zI w))] [.int (zI 1)]
    refine v_if_eq X (by omega) dX10_firmAnswersToGuilty_42 45 47 rfl (by decide) (fun c_3 => ?_) (fun c_3 => ?_)
    · skip
      exfalso; omega
    · skip
      refine v_iconst X dX10_firmAnswersToGuilty_45 46 rfl ?_
      subst hQ; exact m_iret X hr hlk hM dX10_firmAnswersToGuilty_46 rfl ⟨rfl, h_mo⟩
  · skip
    exfalso; first | omega | contradiction
set_option maxHeartbeats 4000000 in
set_option maxRecDepth 20000 in
theorem c_X10_firmAnswersToGuilty_1 (l : Launch) (E : Nat → Nat → Nat) (b : Nat) (mo : Nat → Int → Int) (co : Nat → Int → Int) (k : Int) (w : Int) (hO : OkC co) (hR : RelC co (mo 1)) (hI : TsI co) (gk : Rg k) (gw : Rg w) (p0 : 0 ≤ k ∧ k < co 0 0) (nk : ¬ (0 ≤ w ∧ w < co 0 1)) : Mu l yX10_firmAnswersToGuilty cX10_firmAnswersToGuilty 6 (some .int) 2 0 0 E [(b, 5)] [.ref b, .int (zI k), .int (zI w)] (fun H => PR E b (modelW E b mo) H) (fun rv H => rv = some (.int (zI 0)) ∧ PR E b (modelW E b (updC mo 0 (updZ (mo 0) 0 1))) H) := by
  refine Mu.start (own := RX10) rfl (by decide +kernel) (Nat.le_of_ble_eq_true rfl) ?_
  intro p e s m below meth cd args Q hQ X hr hlk hnm hM hPr
  have h_mo := hPr
  have hb0 := hO.b0
  have hbw := hO.bw
  have hr0 := hR.s0
  have hr1 := hR.s1
  refine v_aload_n X dX10_firmAnswersToGuilty_0 1 rfl 0 rfl ?_
  refine v_aload_n X dX10_firmAnswersToGuilty_1 2 rfl 0 rfl ?_
  refine v_iload_n X dX10_firmAnswersToGuilty_2 3 rfl 1 rfl ?_
  refine v_rdV X hM.C h_mo.1 (c_X10_isCase l E b mo co k hO hR gk) kvX10_isCase kiX10_isCase kl_X10_92 rfl rfl (As := [.int (zI k)]) rfl rfl rfl dX10_firmAnswersToGuilty_3 6 rfl ?_
  show V p l e (rmL 2 0 0) s m args below meth cd Q 6 s.heap [] 0 0 6 [(0, .ref b), (1, .int (zI k)), (2, .int (zI w))] [.int (zI (bz (0 ≤ k ∧ k < co 0 0))), .ref b]
  refine v_bif_eq X dX10_firmAnswersToGuilty_6 9 17 rfl (by decide) (fun c_1 => ?_) (fun c_1 => ?_)
  · skip
    exfalso; first | omega | contradiction
  · skip
    refine v_aload_n X dX10_firmAnswersToGuilty_9 10 rfl 0 rfl ?_
    refine v_iload_n X dX10_firmAnswersToGuilty_10 11 rfl 2 rfl ?_
    refine v_rdV X hM.C h_mo.1 (c_X10_isWitness l E b mo co w hO hR gw) kvX10_isWitness kiX10_isWitness kl_X10_95 rfl rfl (As := [.int (zI w)]) rfl rfl rfl dX10_firmAnswersToGuilty_11 14 rfl ?_
    show V p l e (rmL 2 0 0) s m args below meth cd Q 6 s.heap [] 0 0 14 [(0, .ref b), (1, .int (zI k)), (2, .int (zI w))] [.int (zI (bz (0 ≤ w ∧ w < co 0 1))), .ref b]
    refine v_bif_ne X dX10_firmAnswersToGuilty_14 17 21 rfl (by decide) (fun c_2 => ?_) (fun c_2 => ?_)
    · skip
      exfalso; first | omega | contradiction
    · skip
      refine v_iconst X dX10_firmAnswersToGuilty_17 18 rfl ?_
      refine v_goto X dX10_firmAnswersToGuilty_18 35 (by decide) ?_
      refine v_putf X hM h_mo ftX10 0 rfl rfl 0 (by decide) kf_X10_30 (fun _ h => h) rfl rfl rfl (Nat.le_of_ble_eq_true rfl) (Or.inl (fsH (by omega) (by omega))) dX10_firmAnswersToGuilty_35 38 rfl (ws' := modelW E b (updC mo 0 (updZ (mo 0) 0 1))) rfl (fun H3 lo3 hzz hM hF h_mo => ?_)
      clear hzz
      refine v_aload_n X dX10_firmAnswersToGuilty_38 39 rfl 0 rfl ?_
      refine v_getf X hM.C h_mo.1 inX10 0 rfl rfl 0 (by decide) kf_X10_30 (fun _ h => h) rfl dX10_firmAnswersToGuilty_39 42 rfl ?_
      show V p l e (rmL 2 0 0) s m args below meth cd Q 6 H3 lo3 0 0 42 [(0, .ref b), (1, .int (zI k)), (2, .int (zI w))] [.int (zI 1)]
      refine v_if_eq X (by omega) dX10_firmAnswersToGuilty_42 45 47 rfl (by decide) (fun c_4 => ?_) (fun c_4 => ?_)
      · skip
        exfalso; omega
      · skip
        refine v_iconst X dX10_firmAnswersToGuilty_45 46 rfl ?_
        subst hQ; exact m_iret X hr hlk hM dX10_firmAnswersToGuilty_46 rfl ⟨rfl, h_mo⟩
set_option maxHeartbeats 4000000 in
set_option maxRecDepth 20000 in
theorem c_X10_firmAnswersToGuilty_2 (l : Launch) (E : Nat → Nat → Nat) (b : Nat) (mo : Nat → Int → Int) (co : Nat → Int → Int) (k : Int) (w : Int) (hO : OkC co) (hR : RelC co (mo 1)) (hI : TsI co) (gk : Rg k) (gw : Rg w) (p0 : 0 ≤ k ∧ k < co 0 0) (p1 : 0 ≤ w ∧ w < co 0 1) (nk : ¬ (0 < co 9 (k * 8 + w))) : Mu l yX10_firmAnswersToGuilty cX10_firmAnswersToGuilty 6 (some .int) 4 0 0 E [(b, 5)] [.ref b, .int (zI k), .int (zI w)] (fun H => PR E b (modelW E b mo) H) (fun rv H => rv = some (.int (zI 0)) ∧ PR E b (modelW E b (updC mo 0 (updZ (mo 0) 0 2))) H) := by
  refine Mu.start (own := RX10) rfl (by decide +kernel) (Nat.le_of_ble_eq_true rfl) ?_
  intro p e s m below meth cd args Q hQ X hr hlk hnm hM hPr
  have h_mo := hPr
  have hb0 := hO.b0
  have hbw := hO.bw
  have hr0 := hR.s0
  have hr1 := hR.s1
  have hsp := swC_iff (co := co) (k := k) (w := w) hO hI (by omega) (by omega) (by omega) (by omega)
  refine v_aload_n X dX10_firmAnswersToGuilty_0 1 rfl 0 rfl ?_
  refine v_aload_n X dX10_firmAnswersToGuilty_1 2 rfl 0 rfl ?_
  refine v_iload_n X dX10_firmAnswersToGuilty_2 3 rfl 1 rfl ?_
  refine v_rdV X hM.C h_mo.1 (c_X10_isCase l E b mo co k hO hR gk) kvX10_isCase kiX10_isCase kl_X10_92 rfl rfl (As := [.int (zI k)]) rfl rfl rfl dX10_firmAnswersToGuilty_3 6 rfl ?_
  show V p l e (rmL 4 0 0) s m args below meth cd Q 6 s.heap [] 0 0 6 [(0, .ref b), (1, .int (zI k)), (2, .int (zI w))] [.int (zI (bz (0 ≤ k ∧ k < co 0 0))), .ref b]
  refine v_bif_eq X dX10_firmAnswersToGuilty_6 9 17 rfl (by decide) (fun c_1 => ?_) (fun c_1 => ?_)
  · skip
    exfalso; first | omega | contradiction
  · skip
    refine v_aload_n X dX10_firmAnswersToGuilty_9 10 rfl 0 rfl ?_
    refine v_iload_n X dX10_firmAnswersToGuilty_10 11 rfl 2 rfl ?_
    refine v_rdV X hM.C h_mo.1 (c_X10_isWitness l E b mo co w hO hR gw) kvX10_isWitness kiX10_isWitness kl_X10_95 rfl rfl (As := [.int (zI w)]) rfl rfl rfl dX10_firmAnswersToGuilty_11 14 rfl ?_
    show V p l e (rmL 4 0 0) s m args below meth cd Q 6 s.heap [] 0 0 14 [(0, .ref b), (1, .int (zI k)), (2, .int (zI w))] [.int (zI (bz (0 ≤ w ∧ w < co 0 1))), .ref b]
    refine v_bif_ne X dX10_firmAnswersToGuilty_14 17 21 rfl (by decide) (fun c_2 => ?_) (fun c_2 => ?_)
    · skip
      refine v_aload_n X dX10_firmAnswersToGuilty_21 22 rfl 0 rfl ?_
      refine v_iload_n X dX10_firmAnswersToGuilty_22 23 rfl 1 rfl ?_
      refine v_iload_n X dX10_firmAnswersToGuilty_23 24 rfl 2 rfl ?_
      have hb_3 := hO.b0
      refine v_rdV X hM.C h_mo.1 (c_X10_spokenBy l E b mo co k w hO hR (by omega) (by omega) gw) kvX10_spokenBy kiX10_spokenBy kl_X10_98 rfl rfl (As := [.int (zI k), .int (zI w)]) rfl rfl rfl dX10_firmAnswersToGuilty_24 27 rfl ?_
      show V p l e (rmL 4 0 0) s m args below meth cd Q 6 s.heap [] 0 0 27 [(0, .ref b), (1, .int (zI k)), (2, .int (zI w))] [.int (zI (swC co k w)), .ref b]
      have hf_4 := swC_b hO k w
      refine v_if_ge X (by omega) dX10_firmAnswersToGuilty_27 30 34 rfl (by decide) (fun c_5 => ?_) (fun c_5 => ?_)
      · skip
        refine v_iconst X dX10_firmAnswersToGuilty_34 35 rfl ?_
        refine v_putf X hM h_mo ftX10 0 rfl rfl 0 (by decide) kf_X10_30 (fun _ h => h) rfl rfl rfl (Nat.le_of_ble_eq_true rfl) (Or.inl (fsH (by omega) (by omega))) dX10_firmAnswersToGuilty_35 38 rfl (ws' := modelW E b (updC mo 0 (updZ (mo 0) 0 0))) rfl (fun H6 lo6 hzz hM hF h_mo => ?_)
        clear hzz
        refine v_aload_n X dX10_firmAnswersToGuilty_38 39 rfl 0 rfl ?_
        refine v_getf X hM.C h_mo.1 inX10 0 rfl rfl 0 (by decide) kf_X10_30 (fun _ h => h) rfl dX10_firmAnswersToGuilty_39 42 rfl ?_
        show V p l e (rmL 4 0 0) s m args below meth cd Q 6 H6 lo6 0 0 42 [(0, .ref b), (1, .int (zI k)), (2, .int (zI w))] [.int (zI 0)]
        refine v_if_eq X (by omega) dX10_firmAnswersToGuilty_42 45 47 rfl (by decide) (fun c_7 => ?_) (fun c_7 => ?_)
        · skip
          refine v_aload_n X dX10_firmAnswersToGuilty_47 48 rfl 0 rfl ?_
          refine v_iload_n X dX10_firmAnswersToGuilty_48 49 rfl 1 rfl ?_
          refine v_iload_n X dX10_firmAnswersToGuilty_49 50 rfl 2 rfl ?_
          refine v_rdV X hM.C h_mo.1 (c_X10_spokenBy l E b (updC mo 0 (updZ (mo 0) 0 0)) co k w hO hR (by omega) (by omega) gw) kvX10_spokenBy kiX10_spokenBy kl_X10_98 rfl rfl (As := [.int (zI k), .int (zI w)]) rfl rfl rfl dX10_firmAnswersToGuilty_50 53 rfl ?_
          show V p l e (rmL 4 0 0) s m args below meth cd Q 6 H6 lo6 0 0 53 [(0, .ref b), (1, .int (zI k)), (2, .int (zI w))] [.int (zI (swC co k w))]
          have hf_8 := swC_b hO k w
          refine v_istore_n X dX10_firmAnswersToGuilty_53 54 rfl rfl (by decide) (L' := [(3, .int (zI (swC co k w))), (0, .ref b), (1, .int (zI k)), (2, .int (zI w))]) rfl ?_
          refine v_aload_n X dX10_firmAnswersToGuilty_54 55 rfl 1 rfl ?_
          refine v_iload_n X dX10_firmAnswersToGuilty_55 56 rfl 2 rfl ?_
          refine v_iload_n X dX10_firmAnswersToGuilty_56 57 rfl 0 rfl ?_
          refine v_iconst X dX10_firmAnswersToGuilty_57 58 rfl ?_
          have hb_9 := hO.b6 k
          refine v_rdV X hM.C h_mo.1 (c_X10_t_2 l E b (updC mo 0 (updZ (mo 0) 0 0)) co k (swC co k w) hO hR (by omega) (by omega) (by omega) (by omega)) kvX10_t kiX10_t kl_X10_51 rfl rfl (As := [.int (zI k), .int (zI (swC co k w)), .int (zI 2)]) rfl rfl rfl dX10_firmAnswersToGuilty_58 61 rfl ?_
          show V p l e (rmL 4 0 0) s m args below meth cd Q 6 H6 lo6 0 0 61 [(3, .int (zI (swC co k w))), (0, .ref b), (1, .int (zI k)), (2, .int (zI w))] [.int (zI (co 9 (k * 8 + co 7 (k * 6 + (swC co k w)))))]
          have hb_10 := hO.b9 (k * 8 + co 7 (k * 6 + (swC co k w)))
          have hb_11 := hO.b7 (k * 6 + (swC co k w))
          refine v_aload_n X dX10_firmAnswersToGuilty_61 62 rfl 1 rfl ?_
          refine v_iload_n X dX10_firmAnswersToGuilty_62 63 rfl 2 rfl ?_
          refine v_iload_n X dX10_firmAnswersToGuilty_63 64 rfl 0 rfl ?_
          refine v_iconst X dX10_firmAnswersToGuilty_64 65 rfl ?_
          refine v_rdV X hM.C h_mo.1 (c_X10_t_1 l E b (updC mo 0 (updZ (mo 0) 0 0)) co k (swC co k w) hO hR (by omega) (by omega) (by omega) (by omega)) kvX10_t kiX10_t kl_X10_51 rfl rfl (As := [.int (zI k), .int (zI (swC co k w)), .int (zI 1)]) rfl rfl rfl dX10_firmAnswersToGuilty_65 68 rfl ?_
          show V p l e (rmL 4 0 0) s m args below meth cd Q 6 H6 lo6 0 0 68 [(3, .int (zI (swC co k w))), (0, .ref b), (1, .int (zI k)), (2, .int (zI w))] [.int (zI ((sdC co k (swC co k w) + 1) / 2)), .int (zI (co 9 (k * 8 + co 7 (k * 6 + (swC co k w)))))]
          refine v_iconst X dX10_firmAnswersToGuilty_68 69 rfl ?_
          refine v_icmp_ne X (by omega) (by omega) dX10_firmAnswersToGuilty_69 72 76 rfl (by decide) (fun c_12 => ?_) (fun c_12 => ?_)
          · skip
            refine v_iconst X dX10_firmAnswersToGuilty_76 77 rfl ?_
            refine v_imul X dX10_firmAnswersToGuilty_77 78 rfl ?_
            refine v_istore X dX10_firmAnswersToGuilty_78 80 rfl (by decide) (L' := [(4, .int (zI ((co 9 (k * 8 + co 7 (k * 6 + (swC co k w)))) * (-1)))), (3, .int (zI (swC co k w))), (0, .ref b), (1, .int (zI k)), (2, .int (zI w))]) rfl ?_
            refine V_L (L' := [(4, .int (zI (co 8 (k * 8 + w) * co 9 (k * 8 + w)))), (3, .int (zI (swC co k w))), (0, .ref b), (1, .int (zI k)), (2, .int (zI w))]) (LC (vz (by rw [swC_at (co := co) (k := k) (w := w) (by omega), show co 8 (k * 8 + w) = -1 by omega]; omega)) (LC rfl (LC rfl (LC rfl (LC rfl rfl))))) ?_
            refine v_iconst X dX10_firmAnswersToGuilty_80 81 rfl ?_
            refine v_istore X dX10_firmAnswersToGuilty_81 83 rfl (by decide) (L' := [(5, .int (zI 0)), (4, .int (zI (co 8 (k * 8 + w) * co 9 (k * 8 + w)))), (3, .int (zI (swC co k w))), (0, .ref b), (1, .int (zI k)), (2, .int (zI w))]) rfl ?_
            refine V_L (L' := [(5, .int (zI 0)), (4, .int (zI (co 8 (k * 8 + w) * co 9 (k * 8 + w)))), (3, .int (zI (swC co k w))), (0, .ref b), (1, .int (zI k)), (2, .int (zI w))]) (LC rfl (LC rfl (LC rfl (LC rfl (LC rfl (LC rfl rfl)))))) ?_
            refine up_loop ((9 - co 11 w + 1).toNat) (P := fun (i : Nat) => (∀ j : Int, 0 ≤ j → j < (i : Int) → ¬ (0 < mgC co k + j * (co 8 (k * 8 + w) * co 9 (k * 8 + w)))) → ∀ (H : Heap) (lo : List Loc), MS E [(b, 5)] s H lo → PR E b (modelW E b (updC mo 0 (updZ (mo 0) 0 0))) H → V p l e (rmL 4 0 0) s m args below meth cd Q 6 H lo 0 0 83 [(5, .int (zI (i : Int))), (4, .int (zI (co 8 (k * 8 + w) * co 9 (k * 8 + w)))), (3, .int (zI (swC co k w))), (0, .ref b), (1, .int (zI k)), (2, .int (zI w))] []) (fun i hi_i ih_i hno_i H13 lo13 hM h_mo => ?_) (fun j a b => absurd b (by omega)) _ _ hM h_mo
            have hfm := mul_b (a := (i : Int)) (A := 10) (b := co 8 (k * 8 + w) * co 9 (k * 8 + w)) (B := 5) (by omega) (by omega) (sgn_b (hO.b8 _).1 (hO.b8 _).2 (hO.b9 _).1 (hO.b9 _).2).1 (sgn_b (hO.b8 _).1 (hO.b8 _).2 (hO.b9 _).1 (hO.b9 _).2).2 (by decide) (by decide)
            refine v_iload X dX10_firmAnswersToGuilty_83 85 rfl 0 rfl ?_
            refine v_bipush X dX10_firmAnswersToGuilty_85 87 rfl rfl ?_
            refine v_aload_n X dX10_firmAnswersToGuilty_87 88 rfl 3 rfl ?_
            refine v_getf X hM.C h_mo.1 inX10 0 rfl rfl 1 (by decide) kf_X10_9 (fun _ h => h) rfl dX10_firmAnswersToGuilty_88 91 rfl ?_
            refine v_iconst X dX10_firmAnswersToGuilty_91 92 rfl ?_
            refine v_iload_n X dX10_firmAnswersToGuilty_92 93 rfl 5 rfl ?_
            refine v_iadd X dX10_firmAnswersToGuilty_93 94 rfl ?_
            refine v_iald X hM.C h_mo.1 1 rfl (by omega) (by omega) (by omega) dX10_firmAnswersToGuilty_94 95 rfl ?_
            show V p l e (rmL 4 0 0) s m args below meth cd Q 6 H13 lo13 0 0 95 [(5, .int (zI (i : Int))), (4, .int (zI (co 8 (k * 8 + w) * co 9 (k * 8 + w)))), (3, .int (zI (swC co k w))), (0, .ref b), (1, .int (zI k)), (2, .int (zI w))] [.int (zI (mo 1 (4 + w))), .int (zI 9), .int (zI (i : Int))]
            refine V_S (st' := [.int (zI (co 11 w)), .int (zI 9), .int (zI (i : Int))]) (by rw [hR.w (by omega) (by omega)]) ?_
            refine v_isub X dX10_firmAnswersToGuilty_95 96 rfl ?_
            have hb_15 := hO.b11 w
            refine v_icmp_gt X (by omega) (by omega) dX10_firmAnswersToGuilty_96 99 122 rfl (by decide) (fun c_14 => ?_) (fun c_14 => ?_)
            · skip
              have hnz : faC co k w = -1 := firstZ_none (p := fun j => 0 < mgC co k + j * (co 8 (k * 8 + w) * co 9 (k * 8 + w))) (n := (9 - co 11 w + 1).toNat) (fun j a b => hno_i j a (by omega))
              refine v_aload_n X dX10_firmAnswersToGuilty_122 123 rfl 3 rfl ?_
              refine v_iconst X dX10_firmAnswersToGuilty_123 124 rfl ?_
              refine v_putf X hM h_mo ftX10 0 rfl rfl 0 (by decide) kf_X10_30 (fun _ h => h) rfl rfl rfl (Nat.le_of_ble_eq_true rfl) (Or.inl (fsH (by omega) (by omega))) dX10_firmAnswersToGuilty_124 127 rfl (ws' := modelW E b (updC mo 0 (updZ (mo 0) 0 2))) rfl (fun H16 lo16 hzz hM hF h_mo => ?_)
              clear hzz
              refine v_iconst X dX10_firmAnswersToGuilty_127 128 rfl ?_
              subst hQ; exact m_iret X hr hlk hM dX10_firmAnswersToGuilty_128 rfl ⟨rfl, h_mo⟩
            · skip
              refine v_aload_n X dX10_firmAnswersToGuilty_99 100 rfl 3 rfl ?_
              refine v_iload_n X dX10_firmAnswersToGuilty_100 101 rfl 4 rfl ?_
              refine v_rdV X hM.C h_mo.1 (c_X10_marginOf l E b (updC mo 0 (updZ (mo 0) 0 0)) co k hO hR hI (by omega) (by omega)) kvX10_marginOf kiX10_marginOf kl_X10_109 rfl rfl (As := [.int (zI k)]) rfl rfl rfl dX10_firmAnswersToGuilty_101 104 rfl ?_
              show V p l e (rmL 4 0 0) s m args below meth cd Q 6 H13 lo13 0 0 104 [(5, .int (zI (i : Int))), (4, .int (zI (co 8 (k * 8 + w) * co 9 (k * 8 + w)))), (3, .int (zI (swC co k w))), (0, .ref b), (1, .int (zI k)), (2, .int (zI w))] [.int (zI (mgC co k))]
              have hf_17 := mgC_b hO k
              refine v_iload X dX10_firmAnswersToGuilty_104 106 rfl 0 rfl ?_
              refine v_iload X dX10_firmAnswersToGuilty_106 108 rfl 1 rfl ?_
              refine v_imul X dX10_firmAnswersToGuilty_108 109 rfl ?_
              refine v_iadd X dX10_firmAnswersToGuilty_109 110 rfl ?_
              have hb_19 := hO.b8 (k * 8 + w)
              have hb_20 := hO.b9 (k * 8 + w)
              refine v_if_le X (by omega) dX10_firmAnswersToGuilty_110 113 116 rfl (by decide) (fun c_18 => ?_) (fun c_18 => ?_)
              · skip
                refine v_iinc X dX10_firmAnswersToGuilty_116 119 rfl 0 rfl (by decide) (L' := [(5, .int (zI ((i : Int) + 1))), (4, .int (zI (co 8 (k * 8 + w) * co 9 (k * 8 + w)))), (3, .int (zI (swC co k w))), (0, .ref b), (1, .int (zI k)), (2, .int (zI w))]) rfl ?_
                refine v_goto X dX10_firmAnswersToGuilty_119 83 (by decide) ?_
                exact V_L (L' := [(5, .int (zI ((i + 1 : Nat) : Int))), (4, .int (zI (co 8 (k * 8 + w) * co 9 (k * 8 + w)))), (3, .int (zI (swC co k w))), (0, .ref b), (1, .int (zI k)), (2, .int (zI w))]) (LC (vz (by omega)) (LC rfl (LC rfl (LC rfl (LC rfl (LC rfl rfl)))))) (ih_i (by omega) (fun j a b => by
                  rcases (show j < (i : Int) ∨ (i : Int) ≤ j by omega) with q | q
                  · exact hno_i j a q
                  · have e : j = (i : Int) := by omega
                    subst e
                    first | assumption | omega) _ _ hM h_mo)
              · skip
                have hhz : faC co k w = (i : Int) := firstZ_hit (p := fun j => 0 < mgC co k + j * (co 8 (k * 8 + w) * co 9 (k * 8 + w))) (n := (9 - co 11 w + 1).toNat) (by omega) (by omega) (by first | assumption | omega) hno_i
                refine v_iload X dX10_firmAnswersToGuilty_113 115 rfl 0 rfl ?_
                exfalso; omega
          · skip
            refine v_iconst X dX10_firmAnswersToGuilty_72 73 rfl ?_
            refine v_goto X dX10_firmAnswersToGuilty_73 77 (by decide) ?_
            refine v_imul X dX10_firmAnswersToGuilty_77 78 rfl ?_
            refine v_istore X dX10_firmAnswersToGuilty_78 80 rfl (by decide) (L' := [(4, .int (zI ((co 9 (k * 8 + co 7 (k * 6 + (swC co k w)))) * 1))), (3, .int (zI (swC co k w))), (0, .ref b), (1, .int (zI k)), (2, .int (zI w))]) rfl ?_
            refine V_L (L' := [(4, .int (zI (co 8 (k * 8 + w) * co 9 (k * 8 + w)))), (3, .int (zI (swC co k w))), (0, .ref b), (1, .int (zI k)), (2, .int (zI w))]) (LC (vz (by rw [swC_at (co := co) (k := k) (w := w) (by omega), show co 8 (k * 8 + w) = 1 by omega]; omega)) (LC rfl (LC rfl (LC rfl (LC rfl rfl))))) ?_
            refine v_iconst X dX10_firmAnswersToGuilty_80 81 rfl ?_
            refine v_istore X dX10_firmAnswersToGuilty_81 83 rfl (by decide) (L' := [(5, .int (zI 0)), (4, .int (zI (co 8 (k * 8 + w) * co 9 (k * 8 + w)))), (3, .int (zI (swC co k w))), (0, .ref b), (1, .int (zI k)), (2, .int (zI w))]) rfl ?_
            refine V_L (L' := [(5, .int (zI 0)), (4, .int (zI (co 8 (k * 8 + w) * co 9 (k * 8 + w)))), (3, .int (zI (swC co k w))), (0, .ref b), (1, .int (zI k)), (2, .int (zI w))]) (LC rfl (LC rfl (LC rfl (LC rfl (LC rfl (LC rfl rfl)))))) ?_
            refine up_loop ((9 - co 11 w + 1).toNat) (P := fun (i : Nat) => (∀ j : Int, 0 ≤ j → j < (i : Int) → ¬ (0 < mgC co k + j * (co 8 (k * 8 + w) * co 9 (k * 8 + w)))) → ∀ (H : Heap) (lo : List Loc), MS E [(b, 5)] s H lo → PR E b (modelW E b (updC mo 0 (updZ (mo 0) 0 0))) H → V p l e (rmL 4 0 0) s m args below meth cd Q 6 H lo 0 0 83 [(5, .int (zI (i : Int))), (4, .int (zI (co 8 (k * 8 + w) * co 9 (k * 8 + w)))), (3, .int (zI (swC co k w))), (0, .ref b), (1, .int (zI k)), (2, .int (zI w))] []) (fun i hi_i ih_i hno_i H21 lo21 hM h_mo => ?_) (fun j a b => absurd b (by omega)) _ _ hM h_mo
            have hfm := mul_b (a := (i : Int)) (A := 10) (b := co 8 (k * 8 + w) * co 9 (k * 8 + w)) (B := 5) (by omega) (by omega) (sgn_b (hO.b8 _).1 (hO.b8 _).2 (hO.b9 _).1 (hO.b9 _).2).1 (sgn_b (hO.b8 _).1 (hO.b8 _).2 (hO.b9 _).1 (hO.b9 _).2).2 (by decide) (by decide)
            refine v_iload X dX10_firmAnswersToGuilty_83 85 rfl 0 rfl ?_
            refine v_bipush X dX10_firmAnswersToGuilty_85 87 rfl rfl ?_
            refine v_aload_n X dX10_firmAnswersToGuilty_87 88 rfl 3 rfl ?_
            refine v_getf X hM.C h_mo.1 inX10 0 rfl rfl 1 (by decide) kf_X10_9 (fun _ h => h) rfl dX10_firmAnswersToGuilty_88 91 rfl ?_
            refine v_iconst X dX10_firmAnswersToGuilty_91 92 rfl ?_
            refine v_iload_n X dX10_firmAnswersToGuilty_92 93 rfl 5 rfl ?_
            refine v_iadd X dX10_firmAnswersToGuilty_93 94 rfl ?_
            refine v_iald X hM.C h_mo.1 1 rfl (by omega) (by omega) (by omega) dX10_firmAnswersToGuilty_94 95 rfl ?_
            show V p l e (rmL 4 0 0) s m args below meth cd Q 6 H21 lo21 0 0 95 [(5, .int (zI (i : Int))), (4, .int (zI (co 8 (k * 8 + w) * co 9 (k * 8 + w)))), (3, .int (zI (swC co k w))), (0, .ref b), (1, .int (zI k)), (2, .int (zI w))] [.int (zI (mo 1 (4 + w))), .int (zI 9), .int (zI (i : Int))]
            refine V_S (st' := [.int (zI (co 11 w)), .int (zI 9), .int (zI (i : Int))]) (by rw [hR.w (by omega) (by omega)]) ?_
            refine v_isub X dX10_firmAnswersToGuilty_95 96 rfl ?_
            have hb_23 := hO.b11 w
            refine v_icmp_gt X (by omega) (by omega) dX10_firmAnswersToGuilty_96 99 122 rfl (by decide) (fun c_22 => ?_) (fun c_22 => ?_)
            · skip
              have hnz : faC co k w = -1 := firstZ_none (p := fun j => 0 < mgC co k + j * (co 8 (k * 8 + w) * co 9 (k * 8 + w))) (n := (9 - co 11 w + 1).toNat) (fun j a b => hno_i j a (by omega))
              refine v_aload_n X dX10_firmAnswersToGuilty_122 123 rfl 3 rfl ?_
              refine v_iconst X dX10_firmAnswersToGuilty_123 124 rfl ?_
              refine v_putf X hM h_mo ftX10 0 rfl rfl 0 (by decide) kf_X10_30 (fun _ h => h) rfl rfl rfl (Nat.le_of_ble_eq_true rfl) (Or.inl (fsH (by omega) (by omega))) dX10_firmAnswersToGuilty_124 127 rfl (ws' := modelW E b (updC mo 0 (updZ (mo 0) 0 2))) rfl (fun H24 lo24 hzz hM hF h_mo => ?_)
              clear hzz
              refine v_iconst X dX10_firmAnswersToGuilty_127 128 rfl ?_
              subst hQ; exact m_iret X hr hlk hM dX10_firmAnswersToGuilty_128 rfl ⟨rfl, h_mo⟩
            · skip
              refine v_aload_n X dX10_firmAnswersToGuilty_99 100 rfl 3 rfl ?_
              refine v_iload_n X dX10_firmAnswersToGuilty_100 101 rfl 4 rfl ?_
              refine v_rdV X hM.C h_mo.1 (c_X10_marginOf l E b (updC mo 0 (updZ (mo 0) 0 0)) co k hO hR hI (by omega) (by omega)) kvX10_marginOf kiX10_marginOf kl_X10_109 rfl rfl (As := [.int (zI k)]) rfl rfl rfl dX10_firmAnswersToGuilty_101 104 rfl ?_
              show V p l e (rmL 4 0 0) s m args below meth cd Q 6 H21 lo21 0 0 104 [(5, .int (zI (i : Int))), (4, .int (zI (co 8 (k * 8 + w) * co 9 (k * 8 + w)))), (3, .int (zI (swC co k w))), (0, .ref b), (1, .int (zI k)), (2, .int (zI w))] [.int (zI (mgC co k))]
              have hf_25 := mgC_b hO k
              refine v_iload X dX10_firmAnswersToGuilty_104 106 rfl 0 rfl ?_
              refine v_iload X dX10_firmAnswersToGuilty_106 108 rfl 1 rfl ?_
              refine v_imul X dX10_firmAnswersToGuilty_108 109 rfl ?_
              refine v_iadd X dX10_firmAnswersToGuilty_109 110 rfl ?_
              have hb_27 := hO.b8 (k * 8 + w)
              have hb_28 := hO.b9 (k * 8 + w)
              refine v_if_le X (by omega) dX10_firmAnswersToGuilty_110 113 116 rfl (by decide) (fun c_26 => ?_) (fun c_26 => ?_)
              · skip
                refine v_iinc X dX10_firmAnswersToGuilty_116 119 rfl 0 rfl (by decide) (L' := [(5, .int (zI ((i : Int) + 1))), (4, .int (zI (co 8 (k * 8 + w) * co 9 (k * 8 + w)))), (3, .int (zI (swC co k w))), (0, .ref b), (1, .int (zI k)), (2, .int (zI w))]) rfl ?_
                refine v_goto X dX10_firmAnswersToGuilty_119 83 (by decide) ?_
                exact V_L (L' := [(5, .int (zI ((i + 1 : Nat) : Int))), (4, .int (zI (co 8 (k * 8 + w) * co 9 (k * 8 + w)))), (3, .int (zI (swC co k w))), (0, .ref b), (1, .int (zI k)), (2, .int (zI w))]) (LC (vz (by omega)) (LC rfl (LC rfl (LC rfl (LC rfl (LC rfl rfl)))))) (ih_i (by omega) (fun j a b => by
                  rcases (show j < (i : Int) ∨ (i : Int) ≤ j by omega) with q | q
                  · exact hno_i j a q
                  · have e : j = (i : Int) := by omega
                    subst e
                    first | assumption | omega) _ _ hM h_mo)
              · skip
                have hhz : faC co k w = (i : Int) := firstZ_hit (p := fun j => 0 < mgC co k + j * (co 8 (k * 8 + w) * co 9 (k * 8 + w))) (n := (9 - co 11 w + 1).toNat) (by omega) (by omega) (by first | assumption | omega) hno_i
                refine v_iload X dX10_firmAnswersToGuilty_113 115 rfl 0 rfl ?_
                exfalso; omega
        · skip
          exfalso; omega
      · skip
        refine v_iconst X dX10_firmAnswersToGuilty_30 31 rfl ?_
        refine v_goto X dX10_firmAnswersToGuilty_31 35 (by decide) ?_
        refine v_putf X hM h_mo ftX10 0 rfl rfl 0 (by decide) kf_X10_30 (fun _ h => h) rfl rfl rfl (Nat.le_of_ble_eq_true rfl) (Or.inl (fsH (by omega) (by omega))) dX10_firmAnswersToGuilty_35 38 rfl (ws' := modelW E b (updC mo 0 (updZ (mo 0) 0 2))) rfl (fun H29 lo29 hzz hM hF h_mo => ?_)
        clear hzz
        refine v_aload_n X dX10_firmAnswersToGuilty_38 39 rfl 0 rfl ?_
        refine v_getf X hM.C h_mo.1 inX10 0 rfl rfl 0 (by decide) kf_X10_30 (fun _ h => h) rfl dX10_firmAnswersToGuilty_39 42 rfl ?_
        show V p l e (rmL 4 0 0) s m args below meth cd Q 6 H29 lo29 0 0 42 [(0, .ref b), (1, .int (zI k)), (2, .int (zI w))] [.int (zI 2)]
        refine v_if_eq X (by omega) dX10_firmAnswersToGuilty_42 45 47 rfl (by decide) (fun c_30 => ?_) (fun c_30 => ?_)
        · skip
          exfalso; omega
        · skip
          refine v_iconst X dX10_firmAnswersToGuilty_45 46 rfl ?_
          subst hQ; exact m_iret X hr hlk hM dX10_firmAnswersToGuilty_46 rfl ⟨rfl, h_mo⟩
    · skip
      exfalso; first | omega | contradiction
set_option maxHeartbeats 4000000 in
set_option maxRecDepth 20000 in
theorem c_X10_firmAnswersToGuilty_3 (l : Launch) (E : Nat → Nat → Nat) (b : Nat) (mo : Nat → Int → Int) (co : Nat → Int → Int) (k : Int) (w : Int) (hO : OkC co) (hR : RelC co (mo 1)) (hI : TsI co) (gk : Rg k) (gw : Rg w) (p0 : 0 ≤ k ∧ k < co 0 0) (p1 : 0 ≤ w ∧ w < co 0 1) (p2 : 0 < co 9 (k * 8 + w)) (nk : ¬ (0 ≤ faC co k w)) : Mu l yX10_firmAnswersToGuilty cX10_firmAnswersToGuilty 6 (some .int) 4 0 0 E [(b, 5)] [.ref b, .int (zI k), .int (zI w)] (fun H => PR E b (modelW E b mo) H) (fun rv H => rv = some (.int (zI 0)) ∧ PR E b (modelW E b (updC mo 0 (updZ (mo 0) 0 2))) H) := by
  refine Mu.start (own := RX10) rfl (by decide +kernel) (Nat.le_of_ble_eq_true rfl) ?_
  intro p e s m below meth cd args Q hQ X hr hlk hnm hM hPr
  have h_mo := hPr
  have hb0 := hO.b0
  have hbw := hO.bw
  have hr0 := hR.s0
  have hr1 := hR.s1
  have hb11 := hO.b11 w
  have hsp := swC_iff (co := co) (k := k) (w := w) hO hI (by omega) (by omega) (by omega) (by omega)
  have hag := (agF (k := k) (w := w) hO hI (by omega) (by omega) (by omega) (by omega)).2 (by omega)
  refine v_aload_n X dX10_firmAnswersToGuilty_0 1 rfl 0 rfl ?_
  refine v_aload_n X dX10_firmAnswersToGuilty_1 2 rfl 0 rfl ?_
  refine v_iload_n X dX10_firmAnswersToGuilty_2 3 rfl 1 rfl ?_
  refine v_rdV X hM.C h_mo.1 (c_X10_isCase l E b mo co k hO hR gk) kvX10_isCase kiX10_isCase kl_X10_92 rfl rfl (As := [.int (zI k)]) rfl rfl rfl dX10_firmAnswersToGuilty_3 6 rfl ?_
  show V p l e (rmL 4 0 0) s m args below meth cd Q 6 s.heap [] 0 0 6 [(0, .ref b), (1, .int (zI k)), (2, .int (zI w))] [.int (zI (bz (0 ≤ k ∧ k < co 0 0))), .ref b]
  refine v_bif_eq X dX10_firmAnswersToGuilty_6 9 17 rfl (by decide) (fun c_1 => ?_) (fun c_1 => ?_)
  · skip
    exfalso; first | omega | contradiction
  · skip
    refine v_aload_n X dX10_firmAnswersToGuilty_9 10 rfl 0 rfl ?_
    refine v_iload_n X dX10_firmAnswersToGuilty_10 11 rfl 2 rfl ?_
    refine v_rdV X hM.C h_mo.1 (c_X10_isWitness l E b mo co w hO hR gw) kvX10_isWitness kiX10_isWitness kl_X10_95 rfl rfl (As := [.int (zI w)]) rfl rfl rfl dX10_firmAnswersToGuilty_11 14 rfl ?_
    show V p l e (rmL 4 0 0) s m args below meth cd Q 6 s.heap [] 0 0 14 [(0, .ref b), (1, .int (zI k)), (2, .int (zI w))] [.int (zI (bz (0 ≤ w ∧ w < co 0 1))), .ref b]
    refine v_bif_ne X dX10_firmAnswersToGuilty_14 17 21 rfl (by decide) (fun c_2 => ?_) (fun c_2 => ?_)
    · skip
      refine v_aload_n X dX10_firmAnswersToGuilty_21 22 rfl 0 rfl ?_
      refine v_iload_n X dX10_firmAnswersToGuilty_22 23 rfl 1 rfl ?_
      refine v_iload_n X dX10_firmAnswersToGuilty_23 24 rfl 2 rfl ?_
      have hb_3 := hO.b0
      refine v_rdV X hM.C h_mo.1 (c_X10_spokenBy l E b mo co k w hO hR (by omega) (by omega) gw) kvX10_spokenBy kiX10_spokenBy kl_X10_98 rfl rfl (As := [.int (zI k), .int (zI w)]) rfl rfl rfl dX10_firmAnswersToGuilty_24 27 rfl ?_
      show V p l e (rmL 4 0 0) s m args below meth cd Q 6 s.heap [] 0 0 27 [(0, .ref b), (1, .int (zI k)), (2, .int (zI w))] [.int (zI (swC co k w)), .ref b]
      have hf_4 := swC_b hO k w
      refine v_if_ge X (by omega) dX10_firmAnswersToGuilty_27 30 34 rfl (by decide) (fun c_5 => ?_) (fun c_5 => ?_)
      · skip
        refine v_iconst X dX10_firmAnswersToGuilty_34 35 rfl ?_
        refine v_putf X hM h_mo ftX10 0 rfl rfl 0 (by decide) kf_X10_30 (fun _ h => h) rfl rfl rfl (Nat.le_of_ble_eq_true rfl) (Or.inl (fsH (by omega) (by omega))) dX10_firmAnswersToGuilty_35 38 rfl (ws' := modelW E b (updC mo 0 (updZ (mo 0) 0 0))) rfl (fun H6 lo6 hzz hM hF h_mo => ?_)
        clear hzz
        refine v_aload_n X dX10_firmAnswersToGuilty_38 39 rfl 0 rfl ?_
        refine v_getf X hM.C h_mo.1 inX10 0 rfl rfl 0 (by decide) kf_X10_30 (fun _ h => h) rfl dX10_firmAnswersToGuilty_39 42 rfl ?_
        show V p l e (rmL 4 0 0) s m args below meth cd Q 6 H6 lo6 0 0 42 [(0, .ref b), (1, .int (zI k)), (2, .int (zI w))] [.int (zI 0)]
        refine v_if_eq X (by omega) dX10_firmAnswersToGuilty_42 45 47 rfl (by decide) (fun c_7 => ?_) (fun c_7 => ?_)
        · skip
          refine v_aload_n X dX10_firmAnswersToGuilty_47 48 rfl 0 rfl ?_
          refine v_iload_n X dX10_firmAnswersToGuilty_48 49 rfl 1 rfl ?_
          refine v_iload_n X dX10_firmAnswersToGuilty_49 50 rfl 2 rfl ?_
          refine v_rdV X hM.C h_mo.1 (c_X10_spokenBy l E b (updC mo 0 (updZ (mo 0) 0 0)) co k w hO hR (by omega) (by omega) gw) kvX10_spokenBy kiX10_spokenBy kl_X10_98 rfl rfl (As := [.int (zI k), .int (zI w)]) rfl rfl rfl dX10_firmAnswersToGuilty_50 53 rfl ?_
          show V p l e (rmL 4 0 0) s m args below meth cd Q 6 H6 lo6 0 0 53 [(0, .ref b), (1, .int (zI k)), (2, .int (zI w))] [.int (zI (swC co k w))]
          have hf_8 := swC_b hO k w
          refine v_istore_n X dX10_firmAnswersToGuilty_53 54 rfl rfl (by decide) (L' := [(3, .int (zI (swC co k w))), (0, .ref b), (1, .int (zI k)), (2, .int (zI w))]) rfl ?_
          refine v_aload_n X dX10_firmAnswersToGuilty_54 55 rfl 1 rfl ?_
          refine v_iload_n X dX10_firmAnswersToGuilty_55 56 rfl 2 rfl ?_
          refine v_iload_n X dX10_firmAnswersToGuilty_56 57 rfl 0 rfl ?_
          refine v_iconst X dX10_firmAnswersToGuilty_57 58 rfl ?_
          have hb_9 := hO.b6 k
          refine v_rdV X hM.C h_mo.1 (c_X10_t_2 l E b (updC mo 0 (updZ (mo 0) 0 0)) co k (swC co k w) hO hR (by omega) (by omega) (by omega) (by omega)) kvX10_t kiX10_t kl_X10_51 rfl rfl (As := [.int (zI k), .int (zI (swC co k w)), .int (zI 2)]) rfl rfl rfl dX10_firmAnswersToGuilty_58 61 rfl ?_
          show V p l e (rmL 4 0 0) s m args below meth cd Q 6 H6 lo6 0 0 61 [(3, .int (zI (swC co k w))), (0, .ref b), (1, .int (zI k)), (2, .int (zI w))] [.int (zI (co 9 (k * 8 + co 7 (k * 6 + (swC co k w)))))]
          have hb_10 := hO.b9 (k * 8 + co 7 (k * 6 + (swC co k w)))
          have hb_11 := hO.b7 (k * 6 + (swC co k w))
          refine v_aload_n X dX10_firmAnswersToGuilty_61 62 rfl 1 rfl ?_
          refine v_iload_n X dX10_firmAnswersToGuilty_62 63 rfl 2 rfl ?_
          refine v_iload_n X dX10_firmAnswersToGuilty_63 64 rfl 0 rfl ?_
          refine v_iconst X dX10_firmAnswersToGuilty_64 65 rfl ?_
          refine v_rdV X hM.C h_mo.1 (c_X10_t_1 l E b (updC mo 0 (updZ (mo 0) 0 0)) co k (swC co k w) hO hR (by omega) (by omega) (by omega) (by omega)) kvX10_t kiX10_t kl_X10_51 rfl rfl (As := [.int (zI k), .int (zI (swC co k w)), .int (zI 1)]) rfl rfl rfl dX10_firmAnswersToGuilty_65 68 rfl ?_
          show V p l e (rmL 4 0 0) s m args below meth cd Q 6 H6 lo6 0 0 68 [(3, .int (zI (swC co k w))), (0, .ref b), (1, .int (zI k)), (2, .int (zI w))] [.int (zI ((sdC co k (swC co k w) + 1) / 2)), .int (zI (co 9 (k * 8 + co 7 (k * 6 + (swC co k w)))))]
          refine v_iconst X dX10_firmAnswersToGuilty_68 69 rfl ?_
          refine v_icmp_ne X (by omega) (by omega) dX10_firmAnswersToGuilty_69 72 76 rfl (by decide) (fun c_12 => ?_) (fun c_12 => ?_)
          · skip
            refine v_iconst X dX10_firmAnswersToGuilty_76 77 rfl ?_
            refine v_imul X dX10_firmAnswersToGuilty_77 78 rfl ?_
            refine v_istore X dX10_firmAnswersToGuilty_78 80 rfl (by decide) (L' := [(4, .int (zI ((co 9 (k * 8 + co 7 (k * 6 + (swC co k w)))) * (-1)))), (3, .int (zI (swC co k w))), (0, .ref b), (1, .int (zI k)), (2, .int (zI w))]) rfl ?_
            refine V_L (L' := [(4, .int (zI (co 8 (k * 8 + w) * co 9 (k * 8 + w)))), (3, .int (zI (swC co k w))), (0, .ref b), (1, .int (zI k)), (2, .int (zI w))]) (LC (vz (by rw [swC_at (co := co) (k := k) (w := w) (by omega), show co 8 (k * 8 + w) = -1 by omega]; omega)) (LC rfl (LC rfl (LC rfl (LC rfl rfl))))) ?_
            refine v_iconst X dX10_firmAnswersToGuilty_80 81 rfl ?_
            refine v_istore X dX10_firmAnswersToGuilty_81 83 rfl (by decide) (L' := [(5, .int (zI 0)), (4, .int (zI (co 8 (k * 8 + w) * co 9 (k * 8 + w)))), (3, .int (zI (swC co k w))), (0, .ref b), (1, .int (zI k)), (2, .int (zI w))]) rfl ?_
            refine V_L (L' := [(5, .int (zI 0)), (4, .int (zI (co 8 (k * 8 + w) * co 9 (k * 8 + w)))), (3, .int (zI (swC co k w))), (0, .ref b), (1, .int (zI k)), (2, .int (zI w))]) (LC rfl (LC rfl (LC rfl (LC rfl (LC rfl (LC rfl rfl)))))) ?_
            refine up_loop ((9 - co 11 w + 1).toNat) (P := fun (i : Nat) => (∀ j : Int, 0 ≤ j → j < (i : Int) → ¬ (0 < mgC co k + j * (co 8 (k * 8 + w) * co 9 (k * 8 + w)))) → ∀ (H : Heap) (lo : List Loc), MS E [(b, 5)] s H lo → PR E b (modelW E b (updC mo 0 (updZ (mo 0) 0 0))) H → V p l e (rmL 4 0 0) s m args below meth cd Q 6 H lo 0 0 83 [(5, .int (zI (i : Int))), (4, .int (zI (co 8 (k * 8 + w) * co 9 (k * 8 + w)))), (3, .int (zI (swC co k w))), (0, .ref b), (1, .int (zI k)), (2, .int (zI w))] []) (fun i hi_i ih_i hno_i H13 lo13 hM h_mo => ?_) (fun j a b => absurd b (by omega)) _ _ hM h_mo
            have hfm := mul_b (a := (i : Int)) (A := 10) (b := co 8 (k * 8 + w) * co 9 (k * 8 + w)) (B := 5) (by omega) (by omega) (sgn_b (hO.b8 _).1 (hO.b8 _).2 (hO.b9 _).1 (hO.b9 _).2).1 (sgn_b (hO.b8 _).1 (hO.b8 _).2 (hO.b9 _).1 (hO.b9 _).2).2 (by decide) (by decide)
            refine v_iload X dX10_firmAnswersToGuilty_83 85 rfl 0 rfl ?_
            refine v_bipush X dX10_firmAnswersToGuilty_85 87 rfl rfl ?_
            refine v_aload_n X dX10_firmAnswersToGuilty_87 88 rfl 3 rfl ?_
            refine v_getf X hM.C h_mo.1 inX10 0 rfl rfl 1 (by decide) kf_X10_9 (fun _ h => h) rfl dX10_firmAnswersToGuilty_88 91 rfl ?_
            refine v_iconst X dX10_firmAnswersToGuilty_91 92 rfl ?_
            refine v_iload_n X dX10_firmAnswersToGuilty_92 93 rfl 5 rfl ?_
            refine v_iadd X dX10_firmAnswersToGuilty_93 94 rfl ?_
            refine v_iald X hM.C h_mo.1 1 rfl (by omega) (by omega) (by omega) dX10_firmAnswersToGuilty_94 95 rfl ?_
            show V p l e (rmL 4 0 0) s m args below meth cd Q 6 H13 lo13 0 0 95 [(5, .int (zI (i : Int))), (4, .int (zI (co 8 (k * 8 + w) * co 9 (k * 8 + w)))), (3, .int (zI (swC co k w))), (0, .ref b), (1, .int (zI k)), (2, .int (zI w))] [.int (zI (mo 1 (4 + w))), .int (zI 9), .int (zI (i : Int))]
            refine V_S (st' := [.int (zI (co 11 w)), .int (zI 9), .int (zI (i : Int))]) (by rw [hR.w (by omega) (by omega)]) ?_
            refine v_isub X dX10_firmAnswersToGuilty_95 96 rfl ?_
            have hb_15 := hO.b11 w
            refine v_icmp_gt X (by omega) (by omega) dX10_firmAnswersToGuilty_96 99 122 rfl (by decide) (fun c_14 => ?_) (fun c_14 => ?_)
            · skip
              have hnz : faC co k w = -1 := firstZ_none (p := fun j => 0 < mgC co k + j * (co 8 (k * 8 + w) * co 9 (k * 8 + w))) (n := (9 - co 11 w + 1).toNat) (fun j a b => hno_i j a (by omega))
              refine v_aload_n X dX10_firmAnswersToGuilty_122 123 rfl 3 rfl ?_
              refine v_iconst X dX10_firmAnswersToGuilty_123 124 rfl ?_
              refine v_putf X hM h_mo ftX10 0 rfl rfl 0 (by decide) kf_X10_30 (fun _ h => h) rfl rfl rfl (Nat.le_of_ble_eq_true rfl) (Or.inl (fsH (by omega) (by omega))) dX10_firmAnswersToGuilty_124 127 rfl (ws' := modelW E b (updC mo 0 (updZ (mo 0) 0 2))) rfl (fun H16 lo16 hzz hM hF h_mo => ?_)
              clear hzz
              refine v_iconst X dX10_firmAnswersToGuilty_127 128 rfl ?_
              subst hQ; exact m_iret X hr hlk hM dX10_firmAnswersToGuilty_128 rfl ⟨rfl, h_mo⟩
            · skip
              refine v_aload_n X dX10_firmAnswersToGuilty_99 100 rfl 3 rfl ?_
              refine v_iload_n X dX10_firmAnswersToGuilty_100 101 rfl 4 rfl ?_
              refine v_rdV X hM.C h_mo.1 (c_X10_marginOf l E b (updC mo 0 (updZ (mo 0) 0 0)) co k hO hR hI (by omega) (by omega)) kvX10_marginOf kiX10_marginOf kl_X10_109 rfl rfl (As := [.int (zI k)]) rfl rfl rfl dX10_firmAnswersToGuilty_101 104 rfl ?_
              show V p l e (rmL 4 0 0) s m args below meth cd Q 6 H13 lo13 0 0 104 [(5, .int (zI (i : Int))), (4, .int (zI (co 8 (k * 8 + w) * co 9 (k * 8 + w)))), (3, .int (zI (swC co k w))), (0, .ref b), (1, .int (zI k)), (2, .int (zI w))] [.int (zI (mgC co k))]
              have hf_17 := mgC_b hO k
              refine v_iload X dX10_firmAnswersToGuilty_104 106 rfl 0 rfl ?_
              refine v_iload X dX10_firmAnswersToGuilty_106 108 rfl 1 rfl ?_
              refine v_imul X dX10_firmAnswersToGuilty_108 109 rfl ?_
              refine v_iadd X dX10_firmAnswersToGuilty_109 110 rfl ?_
              have hb_19 := hO.b8 (k * 8 + w)
              have hb_20 := hO.b9 (k * 8 + w)
              refine v_if_le X (by omega) dX10_firmAnswersToGuilty_110 113 116 rfl (by decide) (fun c_18 => ?_) (fun c_18 => ?_)
              · skip
                refine v_iinc X dX10_firmAnswersToGuilty_116 119 rfl 0 rfl (by decide) (L' := [(5, .int (zI ((i : Int) + 1))), (4, .int (zI (co 8 (k * 8 + w) * co 9 (k * 8 + w)))), (3, .int (zI (swC co k w))), (0, .ref b), (1, .int (zI k)), (2, .int (zI w))]) rfl ?_
                refine v_goto X dX10_firmAnswersToGuilty_119 83 (by decide) ?_
                exact V_L (L' := [(5, .int (zI ((i + 1 : Nat) : Int))), (4, .int (zI (co 8 (k * 8 + w) * co 9 (k * 8 + w)))), (3, .int (zI (swC co k w))), (0, .ref b), (1, .int (zI k)), (2, .int (zI w))]) (LC (vz (by omega)) (LC rfl (LC rfl (LC rfl (LC rfl (LC rfl rfl)))))) (ih_i (by omega) (fun j a b => by
                  rcases (show j < (i : Int) ∨ (i : Int) ≤ j by omega) with q | q
                  · exact hno_i j a q
                  · have e : j = (i : Int) := by omega
                    subst e
                    first | assumption | omega) _ _ hM h_mo)
              · skip
                have hhz : faC co k w = (i : Int) := firstZ_hit (p := fun j => 0 < mgC co k + j * (co 8 (k * 8 + w) * co 9 (k * 8 + w))) (n := (9 - co 11 w + 1).toNat) (by omega) (by omega) (by first | assumption | omega) hno_i
                refine v_iload X dX10_firmAnswersToGuilty_113 115 rfl 0 rfl ?_
                exfalso; omega
          · skip
            refine v_iconst X dX10_firmAnswersToGuilty_72 73 rfl ?_
            refine v_goto X dX10_firmAnswersToGuilty_73 77 (by decide) ?_
            refine v_imul X dX10_firmAnswersToGuilty_77 78 rfl ?_
            refine v_istore X dX10_firmAnswersToGuilty_78 80 rfl (by decide) (L' := [(4, .int (zI ((co 9 (k * 8 + co 7 (k * 6 + (swC co k w)))) * 1))), (3, .int (zI (swC co k w))), (0, .ref b), (1, .int (zI k)), (2, .int (zI w))]) rfl ?_
            refine V_L (L' := [(4, .int (zI (co 8 (k * 8 + w) * co 9 (k * 8 + w)))), (3, .int (zI (swC co k w))), (0, .ref b), (1, .int (zI k)), (2, .int (zI w))]) (LC (vz (by rw [swC_at (co := co) (k := k) (w := w) (by omega), show co 8 (k * 8 + w) = 1 by omega]; omega)) (LC rfl (LC rfl (LC rfl (LC rfl rfl))))) ?_
            refine v_iconst X dX10_firmAnswersToGuilty_80 81 rfl ?_
            refine v_istore X dX10_firmAnswersToGuilty_81 83 rfl (by decide) (L' := [(5, .int (zI 0)), (4, .int (zI (co 8 (k * 8 + w) * co 9 (k * 8 + w)))), (3, .int (zI (swC co k w))), (0, .ref b), (1, .int (zI k)), (2, .int (zI w))]) rfl ?_
            refine V_L (L' := [(5, .int (zI 0)), (4, .int (zI (co 8 (k * 8 + w) * co 9 (k * 8 + w)))), (3, .int (zI (swC co k w))), (0, .ref b), (1, .int (zI k)), (2, .int (zI w))]) (LC rfl (LC rfl (LC rfl (LC rfl (LC rfl (LC rfl rfl)))))) ?_
            refine up_loop ((9 - co 11 w + 1).toNat) (P := fun (i : Nat) => (∀ j : Int, 0 ≤ j → j < (i : Int) → ¬ (0 < mgC co k + j * (co 8 (k * 8 + w) * co 9 (k * 8 + w)))) → ∀ (H : Heap) (lo : List Loc), MS E [(b, 5)] s H lo → PR E b (modelW E b (updC mo 0 (updZ (mo 0) 0 0))) H → V p l e (rmL 4 0 0) s m args below meth cd Q 6 H lo 0 0 83 [(5, .int (zI (i : Int))), (4, .int (zI (co 8 (k * 8 + w) * co 9 (k * 8 + w)))), (3, .int (zI (swC co k w))), (0, .ref b), (1, .int (zI k)), (2, .int (zI w))] []) (fun i hi_i ih_i hno_i H21 lo21 hM h_mo => ?_) (fun j a b => absurd b (by omega)) _ _ hM h_mo
            have hfm := mul_b (a := (i : Int)) (A := 10) (b := co 8 (k * 8 + w) * co 9 (k * 8 + w)) (B := 5) (by omega) (by omega) (sgn_b (hO.b8 _).1 (hO.b8 _).2 (hO.b9 _).1 (hO.b9 _).2).1 (sgn_b (hO.b8 _).1 (hO.b8 _).2 (hO.b9 _).1 (hO.b9 _).2).2 (by decide) (by decide)
            refine v_iload X dX10_firmAnswersToGuilty_83 85 rfl 0 rfl ?_
            refine v_bipush X dX10_firmAnswersToGuilty_85 87 rfl rfl ?_
            refine v_aload_n X dX10_firmAnswersToGuilty_87 88 rfl 3 rfl ?_
            refine v_getf X hM.C h_mo.1 inX10 0 rfl rfl 1 (by decide) kf_X10_9 (fun _ h => h) rfl dX10_firmAnswersToGuilty_88 91 rfl ?_
            refine v_iconst X dX10_firmAnswersToGuilty_91 92 rfl ?_
            refine v_iload_n X dX10_firmAnswersToGuilty_92 93 rfl 5 rfl ?_
            refine v_iadd X dX10_firmAnswersToGuilty_93 94 rfl ?_
            refine v_iald X hM.C h_mo.1 1 rfl (by omega) (by omega) (by omega) dX10_firmAnswersToGuilty_94 95 rfl ?_
            show V p l e (rmL 4 0 0) s m args below meth cd Q 6 H21 lo21 0 0 95 [(5, .int (zI (i : Int))), (4, .int (zI (co 8 (k * 8 + w) * co 9 (k * 8 + w)))), (3, .int (zI (swC co k w))), (0, .ref b), (1, .int (zI k)), (2, .int (zI w))] [.int (zI (mo 1 (4 + w))), .int (zI 9), .int (zI (i : Int))]
            refine V_S (st' := [.int (zI (co 11 w)), .int (zI 9), .int (zI (i : Int))]) (by rw [hR.w (by omega) (by omega)]) ?_
            refine v_isub X dX10_firmAnswersToGuilty_95 96 rfl ?_
            have hb_23 := hO.b11 w
            refine v_icmp_gt X (by omega) (by omega) dX10_firmAnswersToGuilty_96 99 122 rfl (by decide) (fun c_22 => ?_) (fun c_22 => ?_)
            · skip
              have hnz : faC co k w = -1 := firstZ_none (p := fun j => 0 < mgC co k + j * (co 8 (k * 8 + w) * co 9 (k * 8 + w))) (n := (9 - co 11 w + 1).toNat) (fun j a b => hno_i j a (by omega))
              refine v_aload_n X dX10_firmAnswersToGuilty_122 123 rfl 3 rfl ?_
              refine v_iconst X dX10_firmAnswersToGuilty_123 124 rfl ?_
              refine v_putf X hM h_mo ftX10 0 rfl rfl 0 (by decide) kf_X10_30 (fun _ h => h) rfl rfl rfl (Nat.le_of_ble_eq_true rfl) (Or.inl (fsH (by omega) (by omega))) dX10_firmAnswersToGuilty_124 127 rfl (ws' := modelW E b (updC mo 0 (updZ (mo 0) 0 2))) rfl (fun H24 lo24 hzz hM hF h_mo => ?_)
              clear hzz
              refine v_iconst X dX10_firmAnswersToGuilty_127 128 rfl ?_
              subst hQ; exact m_iret X hr hlk hM dX10_firmAnswersToGuilty_128 rfl ⟨rfl, h_mo⟩
            · skip
              refine v_aload_n X dX10_firmAnswersToGuilty_99 100 rfl 3 rfl ?_
              refine v_iload_n X dX10_firmAnswersToGuilty_100 101 rfl 4 rfl ?_
              refine v_rdV X hM.C h_mo.1 (c_X10_marginOf l E b (updC mo 0 (updZ (mo 0) 0 0)) co k hO hR hI (by omega) (by omega)) kvX10_marginOf kiX10_marginOf kl_X10_109 rfl rfl (As := [.int (zI k)]) rfl rfl rfl dX10_firmAnswersToGuilty_101 104 rfl ?_
              show V p l e (rmL 4 0 0) s m args below meth cd Q 6 H21 lo21 0 0 104 [(5, .int (zI (i : Int))), (4, .int (zI (co 8 (k * 8 + w) * co 9 (k * 8 + w)))), (3, .int (zI (swC co k w))), (0, .ref b), (1, .int (zI k)), (2, .int (zI w))] [.int (zI (mgC co k))]
              have hf_25 := mgC_b hO k
              refine v_iload X dX10_firmAnswersToGuilty_104 106 rfl 0 rfl ?_
              refine v_iload X dX10_firmAnswersToGuilty_106 108 rfl 1 rfl ?_
              refine v_imul X dX10_firmAnswersToGuilty_108 109 rfl ?_
              refine v_iadd X dX10_firmAnswersToGuilty_109 110 rfl ?_
              have hb_27 := hO.b8 (k * 8 + w)
              have hb_28 := hO.b9 (k * 8 + w)
              refine v_if_le X (by omega) dX10_firmAnswersToGuilty_110 113 116 rfl (by decide) (fun c_26 => ?_) (fun c_26 => ?_)
              · skip
                refine v_iinc X dX10_firmAnswersToGuilty_116 119 rfl 0 rfl (by decide) (L' := [(5, .int (zI ((i : Int) + 1))), (4, .int (zI (co 8 (k * 8 + w) * co 9 (k * 8 + w)))), (3, .int (zI (swC co k w))), (0, .ref b), (1, .int (zI k)), (2, .int (zI w))]) rfl ?_
                refine v_goto X dX10_firmAnswersToGuilty_119 83 (by decide) ?_
                exact V_L (L' := [(5, .int (zI ((i + 1 : Nat) : Int))), (4, .int (zI (co 8 (k * 8 + w) * co 9 (k * 8 + w)))), (3, .int (zI (swC co k w))), (0, .ref b), (1, .int (zI k)), (2, .int (zI w))]) (LC (vz (by omega)) (LC rfl (LC rfl (LC rfl (LC rfl (LC rfl rfl)))))) (ih_i (by omega) (fun j a b => by
                  rcases (show j < (i : Int) ∨ (i : Int) ≤ j by omega) with q | q
                  · exact hno_i j a q
                  · have e : j = (i : Int) := by omega
                    subst e
                    first | assumption | omega) _ _ hM h_mo)
              · skip
                have hhz : faC co k w = (i : Int) := firstZ_hit (p := fun j => 0 < mgC co k + j * (co 8 (k * 8 + w) * co 9 (k * 8 + w))) (n := (9 - co 11 w + 1).toNat) (by omega) (by omega) (by first | assumption | omega) hno_i
                refine v_iload X dX10_firmAnswersToGuilty_113 115 rfl 0 rfl ?_
                exfalso; omega
        · skip
          exfalso; omega
      · skip
        refine v_iconst X dX10_firmAnswersToGuilty_30 31 rfl ?_
        refine v_goto X dX10_firmAnswersToGuilty_31 35 (by decide) ?_
        refine v_putf X hM h_mo ftX10 0 rfl rfl 0 (by decide) kf_X10_30 (fun _ h => h) rfl rfl rfl (Nat.le_of_ble_eq_true rfl) (Or.inl (fsH (by omega) (by omega))) dX10_firmAnswersToGuilty_35 38 rfl (ws' := modelW E b (updC mo 0 (updZ (mo 0) 0 2))) rfl (fun H29 lo29 hzz hM hF h_mo => ?_)
        clear hzz
        refine v_aload_n X dX10_firmAnswersToGuilty_38 39 rfl 0 rfl ?_
        refine v_getf X hM.C h_mo.1 inX10 0 rfl rfl 0 (by decide) kf_X10_30 (fun _ h => h) rfl dX10_firmAnswersToGuilty_39 42 rfl ?_
        show V p l e (rmL 4 0 0) s m args below meth cd Q 6 H29 lo29 0 0 42 [(0, .ref b), (1, .int (zI k)), (2, .int (zI w))] [.int (zI 2)]
        refine v_if_eq X (by omega) dX10_firmAnswersToGuilty_42 45 47 rfl (by decide) (fun c_30 => ?_) (fun c_30 => ?_)
        · skip
          exfalso; omega
        · skip
          refine v_iconst X dX10_firmAnswersToGuilty_45 46 rfl ?_
          subst hQ; exact m_iret X hr hlk hM dX10_firmAnswersToGuilty_46 rfl ⟨rfl, h_mo⟩
    · skip
      exfalso; first | omega | contradiction
set_option maxHeartbeats 4000000 in
set_option maxRecDepth 20000 in
theorem c_X10_docketAt (l : Launch) (E : Nat → Nat → Nat) (b : Nat) (mo : Nat → Int → Int) (co : Nat → Int → Int) (q : Int) (hO : OkC co) (hR : RelC co (mo 1)) (gq : Rg q) (p0 : 0 ≤ dpC co q) : Mu l yX10_docketAt cX10_docketAt 3 (some .int) 3 0 0 E [(b, 5)] [.ref b, .int (zI q)] (fun H => PR E b (modelW E b mo) H) (fun rv H => rv = some (.int (zI (dpC co q))) ∧ PR E b (modelW E b (updC mo 0 (updZ (mo 0) 0 0))) H) := by
  refine Mu.start (own := RX10) rfl (by decide +kernel) (Nat.le_of_ble_eq_true rfl) ?_
  intro p e s m below meth cd args Q hQ X hr hlk hnm hM hPr
  have h_mo := hPr
  have hb0 := hO.b0
  have hbw := hO.bw
  have hr0 := hR.s0
  have hr1 := hR.s1
  refine v_iconst X dX10_docketAt_0 1 rfl ?_
  refine v_istore_n X dX10_docketAt_1 2 rfl rfl (by decide) (L' := [(2, .int (zI 0)), (0, .ref b), (1, .int (zI q))]) rfl ?_
  refine V_L (L' := [(2, .int (zI 0)), (0, .ref b), (1, .int (zI q))]) (LC rfl (LC rfl (LC rfl rfl))) ?_
  refine up_loop ((co 0 0).toNat) (P := fun (i : Nat) => ∀ (tv : Int), (∀ j : Int, 0 ≤ j → j < (i : Int) → ¬ (co 3 j = 0 ∧ rkD co j = q)) → ∀ (H : Heap) (lo : List Loc), MS E [(b, 5)] s H lo → PR E b (modelW E b (updC mo 0 (updZ (mo 0) 0 tv))) H → V p l e (rmL 3 0 0) s m args below meth cd Q 3 H lo 0 0 2 [(2, .int (zI (i : Int))), (0, .ref b), (1, .int (zI q))] []) (fun i hi_i ih_i tv hno_i H1 lo1 hM h_mo => ?_) (mo 0 0) (fun j a b => absurd b (by omega)) _ _ hM (PR.to h_mo (by rw [updC_id]))
  refine v_iload_n X dX10_docketAt_2 3 rfl 0 rfl ?_
  refine v_aload_n X dX10_docketAt_3 4 rfl 1 rfl ?_
  refine v_getf X hM.C h_mo.1 inX10 0 rfl rfl 1 (by decide) kf_X10_9 (fun _ h => h) rfl dX10_docketAt_4 7 rfl ?_
  refine v_iconst X dX10_docketAt_7 8 rfl ?_
  refine v_iald X hM.C h_mo.1 1 rfl (by omega) (by omega) (by omega) dX10_docketAt_8 9 rfl ?_
  show V p l e (rmL 3 0 0) s m args below meth cd Q 3 H1 lo1 0 0 9 [(2, .int (zI (i : Int))), (0, .ref b), (1, .int (zI q))] [.int (zI (mo 1 0)), .int (zI (i : Int))]
  have hb_3 := hR.s0
  refine v_icmp_ge X (by omega) (by omega) dX10_docketAt_9 12 50 rfl (by decide) (fun c_2 => ?_) (fun c_2 => ?_)
  · skip
    have hnz : dpC co q = -1 := firstZ_none (p := fun j => co 3 j = 0 ∧ rkD co j = q) (n := (co 0 0).toNat) (fun j a b => hno_i j a (by omega))
    refine v_aload_n X dX10_docketAt_50 51 rfl 1 rfl ?_
    refine v_iconst X dX10_docketAt_51 52 rfl ?_
    refine v_putf X hM h_mo ftX10 0 rfl rfl 0 (by decide) kf_X10_30 (fun _ h => h) rfl rfl rfl (Nat.le_of_ble_eq_true rfl) (Or.inl (fsH (by omega) (by omega))) dX10_docketAt_52 55 rfl (ws' := modelW E b (updC mo 0 (updZ (mo 0) 0 1))) rfl (fun H4 lo4 hzz hM hF h_mo => ?_)
    clear hzz
    refine v_iconst X dX10_docketAt_55 56 rfl ?_
    exfalso; omega
  · skip
    refine v_aload_n X dX10_docketAt_12 13 rfl 1 rfl ?_
    refine v_aload_n X dX10_docketAt_13 14 rfl 1 rfl ?_
    refine v_iload_n X dX10_docketAt_14 15 rfl 0 rfl ?_
    refine v_iconst X dX10_docketAt_15 16 rfl ?_
    have hb_5 := hO.b0
    refine v_rdV X hM.C h_mo.1 (c_X10_c_2 l E b (updC mo 0 (updZ (mo 0) 0 tv)) co (i : Int) hO hR (by omega) (by omega)) kvX10_c kiX10_c kl_X10_47 rfl rfl (As := [.int (zI (i : Int)), .int (zI 2)]) rfl rfl rfl dX10_docketAt_16 19 rfl ?_
    show V p l e (rmL 3 0 0) s m args below meth cd Q 3 H1 lo1 0 0 19 [(2, .int (zI (i : Int))), (0, .ref b), (1, .int (zI q))] [.int (zI (co 3 (i : Int))), .ref b]
    have hb_6 := hO.b3 (i : Int)
    refine v_if_ne X (by omega) dX10_docketAt_19 22 35 rfl (by decide) (fun c_7 => ?_) (fun c_7 => ?_)
    · skip
      refine v_iconst X dX10_docketAt_35 36 rfl ?_
      refine v_muV X hM (h_mo.1) (c_X10_isFine_0 l E b (updC mo 0 (updZ (mo 0) 0 tv))) kvX10_isFine kiX10_isFine kl_X10_124 (q0 := 0) rfl rfl (As := [.int (zI 0)]) rfl rfl rfl dX10_docketAt_36 39 rfl (k' := 0) (n' := 0) rfl rfl (fsI (fun q q1 q2 => (Or.inl (fsH (by omega) (by omega))))) h_mo (fun rv H8 lo8 hM hF hpo => ?_)
      obtain ⟨rfl, hw_0⟩ := hpo
      have h_mo : PR E b (modelW E b (updC mo 0 (updZ (mo 0) 0 1))) H8 := hw_0
      show V p l e (rmL 3 0 0) s m args below meth cd Q 3 H8 lo8 0 0 39 [(2, .int (zI (i : Int))), (0, .ref b), (1, .int (zI q))] [.int (zI 0)]
      refine v_if_eq X (by omega) dX10_docketAt_39 42 44 rfl (by decide) (fun c_9 => ?_) (fun c_9 => ?_)
      · skip
        refine v_iinc X dX10_docketAt_44 47 rfl 0 rfl (by decide) (L' := [(2, .int (zI ((i : Int) + 1))), (0, .ref b), (1, .int (zI q))]) rfl ?_
        refine v_goto X dX10_docketAt_47 2 (by decide) ?_
        exact V_L (L' := [(2, .int (zI ((i + 1 : Nat) : Int))), (0, .ref b), (1, .int (zI q))]) (LC (vz (by omega)) (LC rfl (LC rfl rfl))) (ih_i (by omega) 1 (fun j a b => by
          rcases (show j < (i : Int) ∨ (i : Int) ≤ j by omega) with q | q
          · exact hno_i j a q
          · have e : j = (i : Int) := by omega
            subst e
            omega) _ _ hM h_mo)
      · skip
        exfalso; omega
    · skip
      refine v_aload_n X dX10_docketAt_22 23 rfl 1 rfl ?_
      refine v_iload_n X dX10_docketAt_23 24 rfl 0 rfl ?_
      refine v_rdV X hM.C h_mo.1 (c_X10_rankOf l E b (updC mo 0 (updZ (mo 0) 0 tv)) co (i : Int) hO hR (by omega) (by omega)) kvX10_rankOf kiX10_rankOf kl_X10_153 rfl rfl (As := [.int (zI (i : Int))]) rfl rfl rfl dX10_docketAt_24 27 rfl ?_
      show V p l e (rmL 3 0 0) s m args below meth cd Q 3 H1 lo1 0 0 27 [(2, .int (zI (i : Int))), (0, .ref b), (1, .int (zI q))] [.int (zI (sumZ (fun j => bz (co 3 j = 0 ∧ cbC co j (i : Int))) (co 0 0).toNat)), .ref b]
      have hf_10 := cnt_b (fun j => co 3 j = 0 ∧ cbC co j (i : Int)) (co 0 0).toNat
      refine V_S (st' := [.int (zI (rkD co (i : Int))), .ref b]) (by rfl) ?_
      have hrk := rkD_b co (i : Int)
      refine v_iload_n X dX10_docketAt_27 28 rfl 2 rfl ?_
      refine v_icmp_ne X (by omega) (by omega) dX10_docketAt_28 31 35 rfl (by decide) (fun c_11 => ?_) (fun c_11 => ?_)
      · skip
        refine v_iconst X dX10_docketAt_35 36 rfl ?_
        refine v_muV X hM (h_mo.1) (c_X10_isFine_0 l E b (updC mo 0 (updZ (mo 0) 0 tv))) kvX10_isFine kiX10_isFine kl_X10_124 (q0 := 0) rfl rfl (As := [.int (zI 0)]) rfl rfl rfl dX10_docketAt_36 39 rfl (k' := 0) (n' := 0) rfl rfl (fsI (fun q q1 q2 => (Or.inl (fsH (by omega) (by omega))))) h_mo (fun rv H12 lo12 hM hF hpo => ?_)
        obtain ⟨rfl, hw_0⟩ := hpo
        have h_mo : PR E b (modelW E b (updC mo 0 (updZ (mo 0) 0 1))) H12 := hw_0
        show V p l e (rmL 3 0 0) s m args below meth cd Q 3 H12 lo12 0 0 39 [(2, .int (zI (i : Int))), (0, .ref b), (1, .int (zI q))] [.int (zI 0)]
        refine v_if_eq X (by omega) dX10_docketAt_39 42 44 rfl (by decide) (fun c_13 => ?_) (fun c_13 => ?_)
        · skip
          refine v_iinc X dX10_docketAt_44 47 rfl 0 rfl (by decide) (L' := [(2, .int (zI ((i : Int) + 1))), (0, .ref b), (1, .int (zI q))]) rfl ?_
          refine v_goto X dX10_docketAt_47 2 (by decide) ?_
          exact V_L (L' := [(2, .int (zI ((i + 1 : Nat) : Int))), (0, .ref b), (1, .int (zI q))]) (LC (vz (by omega)) (LC rfl (LC rfl rfl))) (ih_i (by omega) 1 (fun j a b => by
            rcases (show j < (i : Int) ∨ (i : Int) ≤ j by omega) with q | q
            · exact hno_i j a q
            · have e : j = (i : Int) := by omega
              subst e
              omega) _ _ hM h_mo)
        · skip
          exfalso; omega
      · skip
        refine v_iconst X dX10_docketAt_31 32 rfl ?_
        refine v_goto X dX10_docketAt_32 36 (by decide) ?_
        refine v_muV X hM (h_mo.1) (c_X10_isFine_1 l E b (updC mo 0 (updZ (mo 0) 0 tv))) kvX10_isFine kiX10_isFine kl_X10_124 (q0 := 0) rfl rfl (As := [.int (zI 1)]) rfl rfl rfl dX10_docketAt_36 39 rfl (k' := 0) (n' := 0) rfl rfl (fsI (fun q q1 q2 => (Or.inl (fsH (by omega) (by omega))))) h_mo (fun rv H14 lo14 hM hF hpo => ?_)
        obtain ⟨rfl, hw_0⟩ := hpo
        have h_mo : PR E b (modelW E b (updC mo 0 (updZ (mo 0) 0 0))) H14 := hw_0
        show V p l e (rmL 3 0 0) s m args below meth cd Q 3 H14 lo14 0 0 39 [(2, .int (zI (i : Int))), (0, .ref b), (1, .int (zI q))] [.int (zI 1)]
        refine v_if_eq X (by omega) dX10_docketAt_39 42 44 rfl (by decide) (fun c_15 => ?_) (fun c_15 => ?_)
        · skip
          exfalso; omega
        · skip
          have hhz : dpC co q = (i : Int) := firstZ_hit (p := fun j => co 3 j = 0 ∧ rkD co j = q) (n := (co 0 0).toNat) (by omega) (by omega) (by first | assumption | omega) hno_i
          refine v_iload_n X dX10_docketAt_42 43 rfl 0 rfl ?_
          subst hQ; exact m_iret X hr hlk hM dX10_docketAt_43 rfl ⟨(sv (by omega)), h_mo⟩
set_option maxHeartbeats 4000000 in
set_option maxRecDepth 20000 in
theorem c_X10_docketAt_0 (l : Launch) (E : Nat → Nat → Nat) (b : Nat) (mo : Nat → Int → Int) (co : Nat → Int → Int) (q : Int) (hO : OkC co) (hR : RelC co (mo 1)) (gq : Rg q) (nk : ¬ (0 ≤ dpC co q)) : Mu l yX10_docketAt cX10_docketAt 3 (some .int) 3 0 0 E [(b, 5)] [.ref b, .int (zI q)] (fun H => PR E b (modelW E b mo) H) (fun rv H => rv = some (.int (zI 0)) ∧ PR E b (modelW E b (updC mo 0 (updZ (mo 0) 0 1))) H) := by
  refine Mu.start (own := RX10) rfl (by decide +kernel) (Nat.le_of_ble_eq_true rfl) ?_
  intro p e s m below meth cd args Q hQ X hr hlk hnm hM hPr
  have h_mo := hPr
  have hb0 := hO.b0
  have hbw := hO.bw
  have hr0 := hR.s0
  have hr1 := hR.s1
  refine v_iconst X dX10_docketAt_0 1 rfl ?_
  refine v_istore_n X dX10_docketAt_1 2 rfl rfl (by decide) (L' := [(2, .int (zI 0)), (0, .ref b), (1, .int (zI q))]) rfl ?_
  refine V_L (L' := [(2, .int (zI 0)), (0, .ref b), (1, .int (zI q))]) (LC rfl (LC rfl (LC rfl rfl))) ?_
  refine up_loop ((co 0 0).toNat) (P := fun (i : Nat) => ∀ (tv : Int), (∀ j : Int, 0 ≤ j → j < (i : Int) → ¬ (co 3 j = 0 ∧ rkD co j = q)) → ∀ (H : Heap) (lo : List Loc), MS E [(b, 5)] s H lo → PR E b (modelW E b (updC mo 0 (updZ (mo 0) 0 tv))) H → V p l e (rmL 3 0 0) s m args below meth cd Q 3 H lo 0 0 2 [(2, .int (zI (i : Int))), (0, .ref b), (1, .int (zI q))] []) (fun i hi_i ih_i tv hno_i H1 lo1 hM h_mo => ?_) (mo 0 0) (fun j a b => absurd b (by omega)) _ _ hM (PR.to h_mo (by rw [updC_id]))
  refine v_iload_n X dX10_docketAt_2 3 rfl 0 rfl ?_
  refine v_aload_n X dX10_docketAt_3 4 rfl 1 rfl ?_
  refine v_getf X hM.C h_mo.1 inX10 0 rfl rfl 1 (by decide) kf_X10_9 (fun _ h => h) rfl dX10_docketAt_4 7 rfl ?_
  refine v_iconst X dX10_docketAt_7 8 rfl ?_
  refine v_iald X hM.C h_mo.1 1 rfl (by omega) (by omega) (by omega) dX10_docketAt_8 9 rfl ?_
  show V p l e (rmL 3 0 0) s m args below meth cd Q 3 H1 lo1 0 0 9 [(2, .int (zI (i : Int))), (0, .ref b), (1, .int (zI q))] [.int (zI (mo 1 0)), .int (zI (i : Int))]
  have hb_3 := hR.s0
  refine v_icmp_ge X (by omega) (by omega) dX10_docketAt_9 12 50 rfl (by decide) (fun c_2 => ?_) (fun c_2 => ?_)
  · skip
    have hnz : dpC co q = -1 := firstZ_none (p := fun j => co 3 j = 0 ∧ rkD co j = q) (n := (co 0 0).toNat) (fun j a b => hno_i j a (by omega))
    refine v_aload_n X dX10_docketAt_50 51 rfl 1 rfl ?_
    refine v_iconst X dX10_docketAt_51 52 rfl ?_
    refine v_putf X hM h_mo ftX10 0 rfl rfl 0 (by decide) kf_X10_30 (fun _ h => h) rfl rfl rfl (Nat.le_of_ble_eq_true rfl) (Or.inl (fsH (by omega) (by omega))) dX10_docketAt_52 55 rfl (ws' := modelW E b (updC mo 0 (updZ (mo 0) 0 1))) rfl (fun H4 lo4 hzz hM hF h_mo => ?_)
    clear hzz
    refine v_iconst X dX10_docketAt_55 56 rfl ?_
    subst hQ; exact m_iret X hr hlk hM dX10_docketAt_56 rfl ⟨rfl, h_mo⟩
  · skip
    refine v_aload_n X dX10_docketAt_12 13 rfl 1 rfl ?_
    refine v_aload_n X dX10_docketAt_13 14 rfl 1 rfl ?_
    refine v_iload_n X dX10_docketAt_14 15 rfl 0 rfl ?_
    refine v_iconst X dX10_docketAt_15 16 rfl ?_
    have hb_5 := hO.b0
    refine v_rdV X hM.C h_mo.1 (c_X10_c_2 l E b (updC mo 0 (updZ (mo 0) 0 tv)) co (i : Int) hO hR (by omega) (by omega)) kvX10_c kiX10_c kl_X10_47 rfl rfl (As := [.int (zI (i : Int)), .int (zI 2)]) rfl rfl rfl dX10_docketAt_16 19 rfl ?_
    show V p l e (rmL 3 0 0) s m args below meth cd Q 3 H1 lo1 0 0 19 [(2, .int (zI (i : Int))), (0, .ref b), (1, .int (zI q))] [.int (zI (co 3 (i : Int))), .ref b]
    have hb_6 := hO.b3 (i : Int)
    refine v_if_ne X (by omega) dX10_docketAt_19 22 35 rfl (by decide) (fun c_7 => ?_) (fun c_7 => ?_)
    · skip
      refine v_iconst X dX10_docketAt_35 36 rfl ?_
      refine v_muV X hM (h_mo.1) (c_X10_isFine_0 l E b (updC mo 0 (updZ (mo 0) 0 tv))) kvX10_isFine kiX10_isFine kl_X10_124 (q0 := 0) rfl rfl (As := [.int (zI 0)]) rfl rfl rfl dX10_docketAt_36 39 rfl (k' := 0) (n' := 0) rfl rfl (fsI (fun q q1 q2 => (Or.inl (fsH (by omega) (by omega))))) h_mo (fun rv H8 lo8 hM hF hpo => ?_)
      obtain ⟨rfl, hw_0⟩ := hpo
      have h_mo : PR E b (modelW E b (updC mo 0 (updZ (mo 0) 0 1))) H8 := hw_0
      show V p l e (rmL 3 0 0) s m args below meth cd Q 3 H8 lo8 0 0 39 [(2, .int (zI (i : Int))), (0, .ref b), (1, .int (zI q))] [.int (zI 0)]
      refine v_if_eq X (by omega) dX10_docketAt_39 42 44 rfl (by decide) (fun c_9 => ?_) (fun c_9 => ?_)
      · skip
        refine v_iinc X dX10_docketAt_44 47 rfl 0 rfl (by decide) (L' := [(2, .int (zI ((i : Int) + 1))), (0, .ref b), (1, .int (zI q))]) rfl ?_
        refine v_goto X dX10_docketAt_47 2 (by decide) ?_
        exact V_L (L' := [(2, .int (zI ((i + 1 : Nat) : Int))), (0, .ref b), (1, .int (zI q))]) (LC (vz (by omega)) (LC rfl (LC rfl rfl))) (ih_i (by omega) 1 (fun j a b => by
          rcases (show j < (i : Int) ∨ (i : Int) ≤ j by omega) with q | q
          · exact hno_i j a q
          · have e : j = (i : Int) := by omega
            subst e
            omega) _ _ hM h_mo)
      · skip
        exfalso; omega
    · skip
      refine v_aload_n X dX10_docketAt_22 23 rfl 1 rfl ?_
      refine v_iload_n X dX10_docketAt_23 24 rfl 0 rfl ?_
      refine v_rdV X hM.C h_mo.1 (c_X10_rankOf l E b (updC mo 0 (updZ (mo 0) 0 tv)) co (i : Int) hO hR (by omega) (by omega)) kvX10_rankOf kiX10_rankOf kl_X10_153 rfl rfl (As := [.int (zI (i : Int))]) rfl rfl rfl dX10_docketAt_24 27 rfl ?_
      show V p l e (rmL 3 0 0) s m args below meth cd Q 3 H1 lo1 0 0 27 [(2, .int (zI (i : Int))), (0, .ref b), (1, .int (zI q))] [.int (zI (sumZ (fun j => bz (co 3 j = 0 ∧ cbC co j (i : Int))) (co 0 0).toNat)), .ref b]
      have hf_10 := cnt_b (fun j => co 3 j = 0 ∧ cbC co j (i : Int)) (co 0 0).toNat
      refine V_S (st' := [.int (zI (rkD co (i : Int))), .ref b]) (by rfl) ?_
      have hrk := rkD_b co (i : Int)
      refine v_iload_n X dX10_docketAt_27 28 rfl 2 rfl ?_
      refine v_icmp_ne X (by omega) (by omega) dX10_docketAt_28 31 35 rfl (by decide) (fun c_11 => ?_) (fun c_11 => ?_)
      · skip
        refine v_iconst X dX10_docketAt_35 36 rfl ?_
        refine v_muV X hM (h_mo.1) (c_X10_isFine_0 l E b (updC mo 0 (updZ (mo 0) 0 tv))) kvX10_isFine kiX10_isFine kl_X10_124 (q0 := 0) rfl rfl (As := [.int (zI 0)]) rfl rfl rfl dX10_docketAt_36 39 rfl (k' := 0) (n' := 0) rfl rfl (fsI (fun q q1 q2 => (Or.inl (fsH (by omega) (by omega))))) h_mo (fun rv H12 lo12 hM hF hpo => ?_)
        obtain ⟨rfl, hw_0⟩ := hpo
        have h_mo : PR E b (modelW E b (updC mo 0 (updZ (mo 0) 0 1))) H12 := hw_0
        show V p l e (rmL 3 0 0) s m args below meth cd Q 3 H12 lo12 0 0 39 [(2, .int (zI (i : Int))), (0, .ref b), (1, .int (zI q))] [.int (zI 0)]
        refine v_if_eq X (by omega) dX10_docketAt_39 42 44 rfl (by decide) (fun c_13 => ?_) (fun c_13 => ?_)
        · skip
          refine v_iinc X dX10_docketAt_44 47 rfl 0 rfl (by decide) (L' := [(2, .int (zI ((i : Int) + 1))), (0, .ref b), (1, .int (zI q))]) rfl ?_
          refine v_goto X dX10_docketAt_47 2 (by decide) ?_
          exact V_L (L' := [(2, .int (zI ((i + 1 : Nat) : Int))), (0, .ref b), (1, .int (zI q))]) (LC (vz (by omega)) (LC rfl (LC rfl rfl))) (ih_i (by omega) 1 (fun j a b => by
            rcases (show j < (i : Int) ∨ (i : Int) ≤ j by omega) with q | q
            · exact hno_i j a q
            · have e : j = (i : Int) := by omega
              subst e
              omega) _ _ hM h_mo)
        · skip
          exfalso; omega
      · skip
        refine v_iconst X dX10_docketAt_31 32 rfl ?_
        refine v_goto X dX10_docketAt_32 36 (by decide) ?_
        refine v_muV X hM (h_mo.1) (c_X10_isFine_1 l E b (updC mo 0 (updZ (mo 0) 0 tv))) kvX10_isFine kiX10_isFine kl_X10_124 (q0 := 0) rfl rfl (As := [.int (zI 1)]) rfl rfl rfl dX10_docketAt_36 39 rfl (k' := 0) (n' := 0) rfl rfl (fsI (fun q q1 q2 => (Or.inl (fsH (by omega) (by omega))))) h_mo (fun rv H14 lo14 hM hF hpo => ?_)
        obtain ⟨rfl, hw_0⟩ := hpo
        have h_mo : PR E b (modelW E b (updC mo 0 (updZ (mo 0) 0 0))) H14 := hw_0
        show V p l e (rmL 3 0 0) s m args below meth cd Q 3 H14 lo14 0 0 39 [(2, .int (zI (i : Int))), (0, .ref b), (1, .int (zI q))] [.int (zI 1)]
        refine v_if_eq X (by omega) dX10_docketAt_39 42 44 rfl (by decide) (fun c_15 => ?_) (fun c_15 => ?_)
        · skip
          exfalso; omega
        · skip
          have hhz : dpC co q = (i : Int) := firstZ_hit (p := fun j => co 3 j = 0 ∧ rkD co j = q) (n := (co 0 0).toNat) (by omega) (by omega) (by first | assumption | omega) hno_i
          refine v_iload_n X dX10_docketAt_42 43 rfl 0 rfl ?_
          exfalso; omega
set_option maxHeartbeats 4000000 in
set_option maxRecDepth 20000 in
theorem c_X10_nextToDecide (l : Launch) (E : Nat → Nat → Nat) (b : Nat) (mo : Nat → Int → Int) (co : Nat → Int → Int) (hO : OkC co) (hR : RelC co (mo 1)) (p0 : 0 ≤ ndF co (co 0 0).toNat) : Mu l yX10_nextToDecide cX10_nextToDecide 4 (some .int) 3 0 0 E [(b, 5)] [.ref b] (fun H => PR E b (modelW E b mo) H) (fun rv H => rv = some (.int (zI (ndF co (co 0 0).toNat))) ∧ PR E b (modelW E b (updC mo 0 (updZ (mo 0) 0 0))) H) := by
  refine Mu.start (own := RX10) rfl (by decide +kernel) (Nat.le_of_ble_eq_true rfl) ?_
  intro p e s m below meth cd args Q hQ X hr hlk hnm hM hPr
  have h_mo := hPr
  have hb0 := hO.b0
  have hbw := hO.bw
  have hr0 := hR.s0
  have hr1 := hR.s1
  refine v_iconst X dX10_nextToDecide_0 1 rfl ?_
  refine v_istore_n X dX10_nextToDecide_1 2 rfl rfl (by decide) (L' := [(1, .int (zI (-1))), (0, .ref b)]) rfl ?_
  refine v_iconst X dX10_nextToDecide_2 3 rfl ?_
  refine v_istore_n X dX10_nextToDecide_3 4 rfl rfl (by decide) (L' := [(2, .int (zI 0)), (1, .int (zI (-1))), (0, .ref b)]) rfl ?_
  refine V_L (L' := [(2, .int (zI 0)), (1, .int (zI (ndF co 0))), (0, .ref b)]) (LC rfl (LC (vz (by rfl)) (LC rfl rfl))) ?_
  refine up_loop ((co 0 0).toNat) (P := fun (i : Nat) => ∀ (H : Heap) (lo : List Loc), MS E [(b, 5)] s H lo → PR E b (modelW E b mo) H → V p l e (rmL 3 0 0) s m args below meth cd Q 4 H lo 0 0 4 [(2, .int (zI (i : Int))), (1, .int (zI (ndF co i))), (0, .ref b)] []) (fun i hi_i ih_i H1 lo1 hM h_mo => ?_) _ _ hM h_mo
  have hnd := ndF_b co i
  refine v_iload_n X dX10_nextToDecide_4 5 rfl 0 rfl ?_
  refine v_aload_n X dX10_nextToDecide_5 6 rfl 2 rfl ?_
  refine v_getf X hM.C h_mo.1 inX10 0 rfl rfl 1 (by decide) kf_X10_9 (fun _ h => h) rfl dX10_nextToDecide_6 9 rfl ?_
  refine v_iconst X dX10_nextToDecide_9 10 rfl ?_
  refine v_iald X hM.C h_mo.1 1 rfl (by omega) (by omega) (by omega) dX10_nextToDecide_10 11 rfl ?_
  show V p l e (rmL 3 0 0) s m args below meth cd Q 4 H1 lo1 0 0 11 [(2, .int (zI (i : Int))), (1, .int (zI (ndF co i))), (0, .ref b)] [.int (zI (mo 1 0)), .int (zI (i : Int))]
  have hb_3 := hR.s0
  refine v_icmp_ge X (by omega) (by omega) dX10_nextToDecide_11 14 71 rfl (by decide) (fun c_2 => ?_) (fun c_2 => ?_)
  · skip
    have hie : ndF co i = ndF co (co 0 0).toNat := by rw [show i = (co 0 0).toNat by omega]
    refine v_aload_n X dX10_nextToDecide_71 72 rfl 2 rfl ?_
    refine v_iload_n X dX10_nextToDecide_72 73 rfl 1 rfl ?_
    refine v_if_lt X (by omega) dX10_nextToDecide_73 76 80 rfl (by decide) (fun c_4 => ?_) (fun c_4 => ?_)
    · skip
      refine v_iconst X dX10_nextToDecide_80 81 rfl ?_
      refine v_muV X hM (h_mo.1) (c_X10_isFine_0 l E b mo) kvX10_isFine kiX10_isFine kl_X10_124 (q0 := 0) rfl rfl (As := [.int (zI 0)]) rfl rfl rfl dX10_nextToDecide_81 84 rfl (k' := 0) (n' := 0) rfl rfl (fsI (fun q q1 q2 => (Or.inl (fsH (by omega) (by omega))))) h_mo (fun rv H5 lo5 hM hF hpo => ?_)
      obtain ⟨rfl, hw_0⟩ := hpo
      have h_mo : PR E b (modelW E b (updC mo 0 (updZ (mo 0) 0 1))) H5 := hw_0
      show V p l e (rmL 3 0 0) s m args below meth cd Q 4 H5 lo5 0 0 84 [(2, .int (zI (i : Int))), (1, .int (zI (ndF co i))), (0, .ref b)] [.int (zI 0)]
      refine v_if_eq X (by omega) dX10_nextToDecide_84 87 91 rfl (by decide) (fun c_6 => ?_) (fun c_6 => ?_)
      · skip
        refine v_iconst X dX10_nextToDecide_91 92 rfl ?_
        exfalso; omega
      · skip
        exfalso; omega
    · skip
      refine v_iconst X dX10_nextToDecide_76 77 rfl ?_
      refine v_goto X dX10_nextToDecide_77 81 (by decide) ?_
      refine v_muV X hM (h_mo.1) (c_X10_isFine_1 l E b mo) kvX10_isFine kiX10_isFine kl_X10_124 (q0 := 0) rfl rfl (As := [.int (zI 1)]) rfl rfl rfl dX10_nextToDecide_81 84 rfl (k' := 0) (n' := 0) rfl rfl (fsI (fun q q1 q2 => (Or.inl (fsH (by omega) (by omega))))) h_mo (fun rv H7 lo7 hM hF hpo => ?_)
      obtain ⟨rfl, hw_0⟩ := hpo
      have h_mo : PR E b (modelW E b (updC mo 0 (updZ (mo 0) 0 0))) H7 := hw_0
      show V p l e (rmL 3 0 0) s m args below meth cd Q 4 H7 lo7 0 0 84 [(2, .int (zI (i : Int))), (1, .int (zI (ndF co i))), (0, .ref b)] [.int (zI 1)]
      refine v_if_eq X (by omega) dX10_nextToDecide_84 87 91 rfl (by decide) (fun c_8 => ?_) (fun c_8 => ?_)
      · skip
        exfalso; omega
      · skip
        refine v_iload_n X dX10_nextToDecide_87 88 rfl 1 rfl ?_
        refine v_goto X dX10_nextToDecide_88 92 (by decide) ?_
        subst hQ; exact m_iret X hr hlk hM dX10_nextToDecide_92 rfl ⟨(sv (by omega)), h_mo⟩
  · skip
    refine v_aload_n X dX10_nextToDecide_14 15 rfl 2 rfl ?_
    refine v_iload_n X dX10_nextToDecide_15 16 rfl 0 rfl ?_
    refine v_iconst X dX10_nextToDecide_16 17 rfl ?_
    have hb_9 := hO.b0
    refine v_rdV X hM.C h_mo.1 (c_X10_c_2 l E b mo co (i : Int) hO hR (by omega) (by omega)) kvX10_c kiX10_c kl_X10_47 rfl rfl (As := [.int (zI (i : Int)), .int (zI 2)]) rfl rfl rfl dX10_nextToDecide_17 20 rfl ?_
    show V p l e (rmL 3 0 0) s m args below meth cd Q 4 H1 lo1 0 0 20 [(2, .int (zI (i : Int))), (1, .int (zI (ndF co i))), (0, .ref b)] [.int (zI (co 3 (i : Int)))]
    have hb_10 := hO.b3 (i : Int)
    refine v_if_ne X (by omega) dX10_nextToDecide_20 23 36 rfl (by decide) (fun c_11 => ?_) (fun c_11 => ?_)
    · skip
      refine v_iconst X dX10_nextToDecide_36 37 rfl ?_
      refine v_istore_n X dX10_nextToDecide_37 38 rfl rfl (by decide) (L' := [(3, .int (zI 0)), (2, .int (zI (i : Int))), (1, .int (zI (ndF co i))), (0, .ref b)]) rfl ?_
      refine v_iload_n X dX10_nextToDecide_38 39 rfl 0 rfl ?_
      refine v_if_eq X (by omega) dX10_nextToDecide_39 42 63 rfl (by decide) (fun c_12 => ?_) (fun c_12 => ?_)
      · skip
        refine v_iload_n X dX10_nextToDecide_63 64 rfl 2 rfl ?_
        refine v_istore_n X dX10_nextToDecide_64 65 rfl rfl (by decide) (L' := [(1, .int (zI (ndF co i))), (3, .int (zI 0)), (2, .int (zI (i : Int))), (0, .ref b)]) rfl ?_
        refine v_iinc X dX10_nextToDecide_65 68 rfl 2 rfl (by decide) (L' := [(2, .int (zI ((i : Int) + 1))), (1, .int (zI (ndF co i))), (3, .int (zI 0)), (0, .ref b)]) rfl ?_
        refine v_goto X dX10_nextToDecide_68 4 (by decide) ?_
        refine v_locals [0, 1, 3] (L' := [(2, .int (zI ((i : Int) + 1))), (1, .int (zI (ndF co i))), (0, .ref b)]) rfl ?_
        exact V_L (L' := [(2, .int (zI ((i + 1 : Nat) : Int))), (1, .int (zI (ndF co (i + 1)))), (0, .ref b)]) (LC (vz (by omega)) (LC (vz (by rw [ndF_s]; first | rw [if_pos (c := co 3 (i : Int) = 0 ∧ 0 < co 6 (i : Int) ∧ (ndF co i < 0 ∨ rkD co (i : Int) < rkD co (ndF co i))) (by omega)] | rw [if_neg (c := co 3 (i : Int) = 0 ∧ 0 < co 6 (i : Int) ∧ (ndF co i < 0 ∨ rkD co (i : Int) < rkD co (ndF co i))) (by omega)])) (LC rfl rfl))) (ih_i (by omega) _ _ hM h_mo)
      · skip
        exfalso; omega
    · skip
      refine v_aload_n X dX10_nextToDecide_23 24 rfl 2 rfl ?_
      refine v_iload_n X dX10_nextToDecide_24 25 rfl 0 rfl ?_
      refine v_iconst X dX10_nextToDecide_25 26 rfl ?_
      refine v_rdV X hM.C h_mo.1 (c_X10_c_5 l E b mo co (i : Int) hO hR (by omega) (by omega)) kvX10_c kiX10_c kl_X10_47 rfl rfl (As := [.int (zI (i : Int)), .int (zI 5)]) rfl rfl rfl dX10_nextToDecide_26 29 rfl ?_
      show V p l e (rmL 3 0 0) s m args below meth cd Q 4 H1 lo1 0 0 29 [(2, .int (zI (i : Int))), (1, .int (zI (ndF co i))), (0, .ref b)] [.int (zI (co 6 (i : Int)))]
      have hb_13 := hO.b6 (i : Int)
      refine v_if_le X (by omega) dX10_nextToDecide_29 32 36 rfl (by decide) (fun c_14 => ?_) (fun c_14 => ?_)
      · skip
        refine v_iconst X dX10_nextToDecide_36 37 rfl ?_
        refine v_istore_n X dX10_nextToDecide_37 38 rfl rfl (by decide) (L' := [(3, .int (zI 0)), (2, .int (zI (i : Int))), (1, .int (zI (ndF co i))), (0, .ref b)]) rfl ?_
        refine v_iload_n X dX10_nextToDecide_38 39 rfl 0 rfl ?_
        refine v_if_eq X (by omega) dX10_nextToDecide_39 42 63 rfl (by decide) (fun c_15 => ?_) (fun c_15 => ?_)
        · skip
          refine v_iload_n X dX10_nextToDecide_63 64 rfl 2 rfl ?_
          refine v_istore_n X dX10_nextToDecide_64 65 rfl rfl (by decide) (L' := [(1, .int (zI (ndF co i))), (3, .int (zI 0)), (2, .int (zI (i : Int))), (0, .ref b)]) rfl ?_
          refine v_iinc X dX10_nextToDecide_65 68 rfl 2 rfl (by decide) (L' := [(2, .int (zI ((i : Int) + 1))), (1, .int (zI (ndF co i))), (3, .int (zI 0)), (0, .ref b)]) rfl ?_
          refine v_goto X dX10_nextToDecide_68 4 (by decide) ?_
          refine v_locals [0, 1, 3] (L' := [(2, .int (zI ((i : Int) + 1))), (1, .int (zI (ndF co i))), (0, .ref b)]) rfl ?_
          exact V_L (L' := [(2, .int (zI ((i + 1 : Nat) : Int))), (1, .int (zI (ndF co (i + 1)))), (0, .ref b)]) (LC (vz (by omega)) (LC (vz (by rw [ndF_s]; first | rw [if_pos (c := co 3 (i : Int) = 0 ∧ 0 < co 6 (i : Int) ∧ (ndF co i < 0 ∨ rkD co (i : Int) < rkD co (ndF co i))) (by omega)] | rw [if_neg (c := co 3 (i : Int) = 0 ∧ 0 < co 6 (i : Int) ∧ (ndF co i < 0 ∨ rkD co (i : Int) < rkD co (ndF co i))) (by omega)])) (LC rfl rfl))) (ih_i (by omega) _ _ hM h_mo)
        · skip
          exfalso; omega
      · skip
        refine v_iconst X dX10_nextToDecide_32 33 rfl ?_
        refine v_goto X dX10_nextToDecide_33 37 (by decide) ?_
        refine v_istore_n X dX10_nextToDecide_37 38 rfl rfl (by decide) (L' := [(3, .int (zI 1)), (2, .int (zI (i : Int))), (1, .int (zI (ndF co i))), (0, .ref b)]) rfl ?_
        refine v_iload_n X dX10_nextToDecide_38 39 rfl 0 rfl ?_
        refine v_if_eq X (by omega) dX10_nextToDecide_39 42 63 rfl (by decide) (fun c_16 => ?_) (fun c_16 => ?_)
        · skip
          exfalso; omega
        · skip
          refine v_iload_n X dX10_nextToDecide_42 43 rfl 2 rfl ?_
          refine v_if_lt X (by omega) dX10_nextToDecide_43 46 59 rfl (by decide) (fun c_17 => ?_) (fun c_17 => ?_)
          · skip
            refine v_iload_n X dX10_nextToDecide_59 60 rfl 1 rfl ?_
            refine v_goto X dX10_nextToDecide_60 64 (by decide) ?_
            refine v_istore_n X dX10_nextToDecide_64 65 rfl rfl (by decide) (L' := [(1, .int (zI (i : Int))), (3, .int (zI 1)), (2, .int (zI (i : Int))), (0, .ref b)]) rfl ?_
            refine v_iinc X dX10_nextToDecide_65 68 rfl 2 rfl (by decide) (L' := [(2, .int (zI ((i : Int) + 1))), (1, .int (zI (i : Int))), (3, .int (zI 1)), (0, .ref b)]) rfl ?_
            refine v_goto X dX10_nextToDecide_68 4 (by decide) ?_
            refine v_locals [0, 1, 3] (L' := [(2, .int (zI ((i : Int) + 1))), (1, .int (zI (i : Int))), (0, .ref b)]) rfl ?_
            exact V_L (L' := [(2, .int (zI ((i + 1 : Nat) : Int))), (1, .int (zI (ndF co (i + 1)))), (0, .ref b)]) (LC (vz (by omega)) (LC (vz (by rw [ndF_s]; first | rw [if_pos (c := co 3 (i : Int) = 0 ∧ 0 < co 6 (i : Int) ∧ (ndF co i < 0 ∨ rkD co (i : Int) < rkD co (ndF co i))) (by omega)] | rw [if_neg (c := co 3 (i : Int) = 0 ∧ 0 < co 6 (i : Int) ∧ (ndF co i < 0 ∨ rkD co (i : Int) < rkD co (ndF co i))) (by omega)])) (LC rfl rfl))) (ih_i (by omega) _ _ hM h_mo)
          · skip
            refine v_aload_n X dX10_nextToDecide_46 47 rfl 3 rfl ?_
            refine v_iload_n X dX10_nextToDecide_47 48 rfl 1 rfl ?_
            refine v_rdV X hM.C h_mo.1 (c_X10_rankOf l E b mo co (i : Int) hO hR (by omega) (by omega)) kvX10_rankOf kiX10_rankOf kl_X10_153 rfl rfl (As := [.int (zI (i : Int))]) rfl rfl rfl dX10_nextToDecide_48 51 rfl ?_
            show V p l e (rmL 3 0 0) s m args below meth cd Q 4 H1 lo1 0 0 51 [(3, .int (zI 1)), (2, .int (zI (i : Int))), (1, .int (zI (ndF co i))), (0, .ref b)] [.int (zI (sumZ (fun j => bz (co 3 j = 0 ∧ cbC co j (i : Int))) (co 0 0).toNat))]
            have hf_18 := cnt_b (fun j => co 3 j = 0 ∧ cbC co j (i : Int)) (co 0 0).toNat
            refine V_S (st' := [.int (zI (rkD co (i : Int)))]) (by rfl) ?_
            have hrk_19 := rkD_b co (i : Int)
            refine v_aload_n X dX10_nextToDecide_51 52 rfl 3 rfl ?_
            refine v_iload_n X dX10_nextToDecide_52 53 rfl 2 rfl ?_
            refine v_rdV X hM.C h_mo.1 (c_X10_rankOf l E b mo co (ndF co i) hO hR (by omega) (by omega)) kvX10_rankOf kiX10_rankOf kl_X10_153 rfl rfl (As := [.int (zI (ndF co i))]) rfl rfl rfl dX10_nextToDecide_53 56 rfl ?_
            show V p l e (rmL 3 0 0) s m args below meth cd Q 4 H1 lo1 0 0 56 [(3, .int (zI 1)), (2, .int (zI (i : Int))), (1, .int (zI (ndF co i))), (0, .ref b)] [.int (zI (sumZ (fun j => bz (co 3 j = 0 ∧ cbC co j (ndF co i))) (co 0 0).toNat)), .int (zI (rkD co (i : Int)))]
            have hf_20 := cnt_b (fun j => co 3 j = 0 ∧ cbC co j (ndF co i)) (co 0 0).toNat
            refine V_S (st' := [.int (zI (rkD co (ndF co i))), .int (zI (rkD co (i : Int)))]) (by rfl) ?_
            have hrk_21 := rkD_b co (ndF co i)
            refine v_icmp_ge X (by omega) (by omega) dX10_nextToDecide_56 59 63 rfl (by decide) (fun c_22 => ?_) (fun c_22 => ?_)
            · skip
              refine v_iload_n X dX10_nextToDecide_63 64 rfl 2 rfl ?_
              refine v_istore_n X dX10_nextToDecide_64 65 rfl rfl (by decide) (L' := [(1, .int (zI (ndF co i))), (3, .int (zI 1)), (2, .int (zI (i : Int))), (0, .ref b)]) rfl ?_
              refine v_iinc X dX10_nextToDecide_65 68 rfl 2 rfl (by decide) (L' := [(2, .int (zI ((i : Int) + 1))), (1, .int (zI (ndF co i))), (3, .int (zI 1)), (0, .ref b)]) rfl ?_
              refine v_goto X dX10_nextToDecide_68 4 (by decide) ?_
              refine v_locals [0, 1, 3] (L' := [(2, .int (zI ((i : Int) + 1))), (1, .int (zI (ndF co i))), (0, .ref b)]) rfl ?_
              exact V_L (L' := [(2, .int (zI ((i + 1 : Nat) : Int))), (1, .int (zI (ndF co (i + 1)))), (0, .ref b)]) (LC (vz (by omega)) (LC (vz (by rw [ndF_s]; first | rw [if_pos (c := co 3 (i : Int) = 0 ∧ 0 < co 6 (i : Int) ∧ (ndF co i < 0 ∨ rkD co (i : Int) < rkD co (ndF co i))) (by omega)] | rw [if_neg (c := co 3 (i : Int) = 0 ∧ 0 < co 6 (i : Int) ∧ (ndF co i < 0 ∨ rkD co (i : Int) < rkD co (ndF co i))) (by omega)])) (LC rfl rfl))) (ih_i (by omega) _ _ hM h_mo)
            · skip
              refine v_iload_n X dX10_nextToDecide_59 60 rfl 1 rfl ?_
              refine v_goto X dX10_nextToDecide_60 64 (by decide) ?_
              refine v_istore_n X dX10_nextToDecide_64 65 rfl rfl (by decide) (L' := [(1, .int (zI (i : Int))), (3, .int (zI 1)), (2, .int (zI (i : Int))), (0, .ref b)]) rfl ?_
              refine v_iinc X dX10_nextToDecide_65 68 rfl 2 rfl (by decide) (L' := [(2, .int (zI ((i : Int) + 1))), (1, .int (zI (i : Int))), (3, .int (zI 1)), (0, .ref b)]) rfl ?_
              refine v_goto X dX10_nextToDecide_68 4 (by decide) ?_
              refine v_locals [0, 1, 3] (L' := [(2, .int (zI ((i : Int) + 1))), (1, .int (zI (i : Int))), (0, .ref b)]) rfl ?_
              exact V_L (L' := [(2, .int (zI ((i + 1 : Nat) : Int))), (1, .int (zI (ndF co (i + 1)))), (0, .ref b)]) (LC (vz (by omega)) (LC (vz (by rw [ndF_s]; first | rw [if_pos (c := co 3 (i : Int) = 0 ∧ 0 < co 6 (i : Int) ∧ (ndF co i < 0 ∨ rkD co (i : Int) < rkD co (ndF co i))) (by omega)] | rw [if_neg (c := co 3 (i : Int) = 0 ∧ 0 < co 6 (i : Int) ∧ (ndF co i < 0 ∨ rkD co (i : Int) < rkD co (ndF co i))) (by omega)])) (LC rfl rfl))) (ih_i (by omega) _ _ hM h_mo)
set_option maxHeartbeats 4000000 in
set_option maxRecDepth 20000 in
theorem c_X10_nextToDecide_0 (l : Launch) (E : Nat → Nat → Nat) (b : Nat) (mo : Nat → Int → Int) (co : Nat → Int → Int) (hO : OkC co) (hR : RelC co (mo 1)) (nk : ¬ (0 ≤ ndF co (co 0 0).toNat)) : Mu l yX10_nextToDecide cX10_nextToDecide 4 (some .int) 3 0 0 E [(b, 5)] [.ref b] (fun H => PR E b (modelW E b mo) H) (fun rv H => rv = some (.int (zI 0)) ∧ PR E b (modelW E b (updC mo 0 (updZ (mo 0) 0 1))) H) := by
  refine Mu.start (own := RX10) rfl (by decide +kernel) (Nat.le_of_ble_eq_true rfl) ?_
  intro p e s m below meth cd args Q hQ X hr hlk hnm hM hPr
  have h_mo := hPr
  have hb0 := hO.b0
  have hbw := hO.bw
  have hr0 := hR.s0
  have hr1 := hR.s1
  refine v_iconst X dX10_nextToDecide_0 1 rfl ?_
  refine v_istore_n X dX10_nextToDecide_1 2 rfl rfl (by decide) (L' := [(1, .int (zI (-1))), (0, .ref b)]) rfl ?_
  refine v_iconst X dX10_nextToDecide_2 3 rfl ?_
  refine v_istore_n X dX10_nextToDecide_3 4 rfl rfl (by decide) (L' := [(2, .int (zI 0)), (1, .int (zI (-1))), (0, .ref b)]) rfl ?_
  refine V_L (L' := [(2, .int (zI 0)), (1, .int (zI (ndF co 0))), (0, .ref b)]) (LC rfl (LC (vz (by rfl)) (LC rfl rfl))) ?_
  refine up_loop ((co 0 0).toNat) (P := fun (i : Nat) => ∀ (H : Heap) (lo : List Loc), MS E [(b, 5)] s H lo → PR E b (modelW E b mo) H → V p l e (rmL 3 0 0) s m args below meth cd Q 4 H lo 0 0 4 [(2, .int (zI (i : Int))), (1, .int (zI (ndF co i))), (0, .ref b)] []) (fun i hi_i ih_i H1 lo1 hM h_mo => ?_) _ _ hM h_mo
  have hnd := ndF_b co i
  refine v_iload_n X dX10_nextToDecide_4 5 rfl 0 rfl ?_
  refine v_aload_n X dX10_nextToDecide_5 6 rfl 2 rfl ?_
  refine v_getf X hM.C h_mo.1 inX10 0 rfl rfl 1 (by decide) kf_X10_9 (fun _ h => h) rfl dX10_nextToDecide_6 9 rfl ?_
  refine v_iconst X dX10_nextToDecide_9 10 rfl ?_
  refine v_iald X hM.C h_mo.1 1 rfl (by omega) (by omega) (by omega) dX10_nextToDecide_10 11 rfl ?_
  show V p l e (rmL 3 0 0) s m args below meth cd Q 4 H1 lo1 0 0 11 [(2, .int (zI (i : Int))), (1, .int (zI (ndF co i))), (0, .ref b)] [.int (zI (mo 1 0)), .int (zI (i : Int))]
  have hb_3 := hR.s0
  refine v_icmp_ge X (by omega) (by omega) dX10_nextToDecide_11 14 71 rfl (by decide) (fun c_2 => ?_) (fun c_2 => ?_)
  · skip
    have hie : ndF co i = ndF co (co 0 0).toNat := by rw [show i = (co 0 0).toNat by omega]
    refine v_aload_n X dX10_nextToDecide_71 72 rfl 2 rfl ?_
    refine v_iload_n X dX10_nextToDecide_72 73 rfl 1 rfl ?_
    refine v_if_lt X (by omega) dX10_nextToDecide_73 76 80 rfl (by decide) (fun c_4 => ?_) (fun c_4 => ?_)
    · skip
      refine v_iconst X dX10_nextToDecide_80 81 rfl ?_
      refine v_muV X hM (h_mo.1) (c_X10_isFine_0 l E b mo) kvX10_isFine kiX10_isFine kl_X10_124 (q0 := 0) rfl rfl (As := [.int (zI 0)]) rfl rfl rfl dX10_nextToDecide_81 84 rfl (k' := 0) (n' := 0) rfl rfl (fsI (fun q q1 q2 => (Or.inl (fsH (by omega) (by omega))))) h_mo (fun rv H5 lo5 hM hF hpo => ?_)
      obtain ⟨rfl, hw_0⟩ := hpo
      have h_mo : PR E b (modelW E b (updC mo 0 (updZ (mo 0) 0 1))) H5 := hw_0
      show V p l e (rmL 3 0 0) s m args below meth cd Q 4 H5 lo5 0 0 84 [(2, .int (zI (i : Int))), (1, .int (zI (ndF co i))), (0, .ref b)] [.int (zI 0)]
      refine v_if_eq X (by omega) dX10_nextToDecide_84 87 91 rfl (by decide) (fun c_6 => ?_) (fun c_6 => ?_)
      · skip
        refine v_iconst X dX10_nextToDecide_91 92 rfl ?_
        subst hQ; exact m_iret X hr hlk hM dX10_nextToDecide_92 rfl ⟨rfl, h_mo⟩
      · skip
        exfalso; omega
    · skip
      refine v_iconst X dX10_nextToDecide_76 77 rfl ?_
      refine v_goto X dX10_nextToDecide_77 81 (by decide) ?_
      refine v_muV X hM (h_mo.1) (c_X10_isFine_1 l E b mo) kvX10_isFine kiX10_isFine kl_X10_124 (q0 := 0) rfl rfl (As := [.int (zI 1)]) rfl rfl rfl dX10_nextToDecide_81 84 rfl (k' := 0) (n' := 0) rfl rfl (fsI (fun q q1 q2 => (Or.inl (fsH (by omega) (by omega))))) h_mo (fun rv H7 lo7 hM hF hpo => ?_)
      obtain ⟨rfl, hw_0⟩ := hpo
      have h_mo : PR E b (modelW E b (updC mo 0 (updZ (mo 0) 0 0))) H7 := hw_0
      show V p l e (rmL 3 0 0) s m args below meth cd Q 4 H7 lo7 0 0 84 [(2, .int (zI (i : Int))), (1, .int (zI (ndF co i))), (0, .ref b)] [.int (zI 1)]
      refine v_if_eq X (by omega) dX10_nextToDecide_84 87 91 rfl (by decide) (fun c_8 => ?_) (fun c_8 => ?_)
      · skip
        exfalso; omega
      · skip
        refine v_iload_n X dX10_nextToDecide_87 88 rfl 1 rfl ?_
        refine v_goto X dX10_nextToDecide_88 92 (by decide) ?_
        exfalso; omega
  · skip
    refine v_aload_n X dX10_nextToDecide_14 15 rfl 2 rfl ?_
    refine v_iload_n X dX10_nextToDecide_15 16 rfl 0 rfl ?_
    refine v_iconst X dX10_nextToDecide_16 17 rfl ?_
    have hb_9 := hO.b0
    refine v_rdV X hM.C h_mo.1 (c_X10_c_2 l E b mo co (i : Int) hO hR (by omega) (by omega)) kvX10_c kiX10_c kl_X10_47 rfl rfl (As := [.int (zI (i : Int)), .int (zI 2)]) rfl rfl rfl dX10_nextToDecide_17 20 rfl ?_
    show V p l e (rmL 3 0 0) s m args below meth cd Q 4 H1 lo1 0 0 20 [(2, .int (zI (i : Int))), (1, .int (zI (ndF co i))), (0, .ref b)] [.int (zI (co 3 (i : Int)))]
    have hb_10 := hO.b3 (i : Int)
    refine v_if_ne X (by omega) dX10_nextToDecide_20 23 36 rfl (by decide) (fun c_11 => ?_) (fun c_11 => ?_)
    · skip
      refine v_iconst X dX10_nextToDecide_36 37 rfl ?_
      refine v_istore_n X dX10_nextToDecide_37 38 rfl rfl (by decide) (L' := [(3, .int (zI 0)), (2, .int (zI (i : Int))), (1, .int (zI (ndF co i))), (0, .ref b)]) rfl ?_
      refine v_iload_n X dX10_nextToDecide_38 39 rfl 0 rfl ?_
      refine v_if_eq X (by omega) dX10_nextToDecide_39 42 63 rfl (by decide) (fun c_12 => ?_) (fun c_12 => ?_)
      · skip
        refine v_iload_n X dX10_nextToDecide_63 64 rfl 2 rfl ?_
        refine v_istore_n X dX10_nextToDecide_64 65 rfl rfl (by decide) (L' := [(1, .int (zI (ndF co i))), (3, .int (zI 0)), (2, .int (zI (i : Int))), (0, .ref b)]) rfl ?_
        refine v_iinc X dX10_nextToDecide_65 68 rfl 2 rfl (by decide) (L' := [(2, .int (zI ((i : Int) + 1))), (1, .int (zI (ndF co i))), (3, .int (zI 0)), (0, .ref b)]) rfl ?_
        refine v_goto X dX10_nextToDecide_68 4 (by decide) ?_
        refine v_locals [0, 1, 3] (L' := [(2, .int (zI ((i : Int) + 1))), (1, .int (zI (ndF co i))), (0, .ref b)]) rfl ?_
        exact V_L (L' := [(2, .int (zI ((i + 1 : Nat) : Int))), (1, .int (zI (ndF co (i + 1)))), (0, .ref b)]) (LC (vz (by omega)) (LC (vz (by rw [ndF_s]; first | rw [if_pos (c := co 3 (i : Int) = 0 ∧ 0 < co 6 (i : Int) ∧ (ndF co i < 0 ∨ rkD co (i : Int) < rkD co (ndF co i))) (by omega)] | rw [if_neg (c := co 3 (i : Int) = 0 ∧ 0 < co 6 (i : Int) ∧ (ndF co i < 0 ∨ rkD co (i : Int) < rkD co (ndF co i))) (by omega)])) (LC rfl rfl))) (ih_i (by omega) _ _ hM h_mo)
      · skip
        exfalso; omega
    · skip
      refine v_aload_n X dX10_nextToDecide_23 24 rfl 2 rfl ?_
      refine v_iload_n X dX10_nextToDecide_24 25 rfl 0 rfl ?_
      refine v_iconst X dX10_nextToDecide_25 26 rfl ?_
      refine v_rdV X hM.C h_mo.1 (c_X10_c_5 l E b mo co (i : Int) hO hR (by omega) (by omega)) kvX10_c kiX10_c kl_X10_47 rfl rfl (As := [.int (zI (i : Int)), .int (zI 5)]) rfl rfl rfl dX10_nextToDecide_26 29 rfl ?_
      show V p l e (rmL 3 0 0) s m args below meth cd Q 4 H1 lo1 0 0 29 [(2, .int (zI (i : Int))), (1, .int (zI (ndF co i))), (0, .ref b)] [.int (zI (co 6 (i : Int)))]
      have hb_13 := hO.b6 (i : Int)
      refine v_if_le X (by omega) dX10_nextToDecide_29 32 36 rfl (by decide) (fun c_14 => ?_) (fun c_14 => ?_)
      · skip
        refine v_iconst X dX10_nextToDecide_36 37 rfl ?_
        refine v_istore_n X dX10_nextToDecide_37 38 rfl rfl (by decide) (L' := [(3, .int (zI 0)), (2, .int (zI (i : Int))), (1, .int (zI (ndF co i))), (0, .ref b)]) rfl ?_
        refine v_iload_n X dX10_nextToDecide_38 39 rfl 0 rfl ?_
        refine v_if_eq X (by omega) dX10_nextToDecide_39 42 63 rfl (by decide) (fun c_15 => ?_) (fun c_15 => ?_)
        · skip
          refine v_iload_n X dX10_nextToDecide_63 64 rfl 2 rfl ?_
          refine v_istore_n X dX10_nextToDecide_64 65 rfl rfl (by decide) (L' := [(1, .int (zI (ndF co i))), (3, .int (zI 0)), (2, .int (zI (i : Int))), (0, .ref b)]) rfl ?_
          refine v_iinc X dX10_nextToDecide_65 68 rfl 2 rfl (by decide) (L' := [(2, .int (zI ((i : Int) + 1))), (1, .int (zI (ndF co i))), (3, .int (zI 0)), (0, .ref b)]) rfl ?_
          refine v_goto X dX10_nextToDecide_68 4 (by decide) ?_
          refine v_locals [0, 1, 3] (L' := [(2, .int (zI ((i : Int) + 1))), (1, .int (zI (ndF co i))), (0, .ref b)]) rfl ?_
          exact V_L (L' := [(2, .int (zI ((i + 1 : Nat) : Int))), (1, .int (zI (ndF co (i + 1)))), (0, .ref b)]) (LC (vz (by omega)) (LC (vz (by rw [ndF_s]; first | rw [if_pos (c := co 3 (i : Int) = 0 ∧ 0 < co 6 (i : Int) ∧ (ndF co i < 0 ∨ rkD co (i : Int) < rkD co (ndF co i))) (by omega)] | rw [if_neg (c := co 3 (i : Int) = 0 ∧ 0 < co 6 (i : Int) ∧ (ndF co i < 0 ∨ rkD co (i : Int) < rkD co (ndF co i))) (by omega)])) (LC rfl rfl))) (ih_i (by omega) _ _ hM h_mo)
        · skip
          exfalso; omega
      · skip
        refine v_iconst X dX10_nextToDecide_32 33 rfl ?_
        refine v_goto X dX10_nextToDecide_33 37 (by decide) ?_
        refine v_istore_n X dX10_nextToDecide_37 38 rfl rfl (by decide) (L' := [(3, .int (zI 1)), (2, .int (zI (i : Int))), (1, .int (zI (ndF co i))), (0, .ref b)]) rfl ?_
        refine v_iload_n X dX10_nextToDecide_38 39 rfl 0 rfl ?_
        refine v_if_eq X (by omega) dX10_nextToDecide_39 42 63 rfl (by decide) (fun c_16 => ?_) (fun c_16 => ?_)
        · skip
          exfalso; omega
        · skip
          refine v_iload_n X dX10_nextToDecide_42 43 rfl 2 rfl ?_
          refine v_if_lt X (by omega) dX10_nextToDecide_43 46 59 rfl (by decide) (fun c_17 => ?_) (fun c_17 => ?_)
          · skip
            refine v_iload_n X dX10_nextToDecide_59 60 rfl 1 rfl ?_
            refine v_goto X dX10_nextToDecide_60 64 (by decide) ?_
            refine v_istore_n X dX10_nextToDecide_64 65 rfl rfl (by decide) (L' := [(1, .int (zI (i : Int))), (3, .int (zI 1)), (2, .int (zI (i : Int))), (0, .ref b)]) rfl ?_
            refine v_iinc X dX10_nextToDecide_65 68 rfl 2 rfl (by decide) (L' := [(2, .int (zI ((i : Int) + 1))), (1, .int (zI (i : Int))), (3, .int (zI 1)), (0, .ref b)]) rfl ?_
            refine v_goto X dX10_nextToDecide_68 4 (by decide) ?_
            refine v_locals [0, 1, 3] (L' := [(2, .int (zI ((i : Int) + 1))), (1, .int (zI (i : Int))), (0, .ref b)]) rfl ?_
            exact V_L (L' := [(2, .int (zI ((i + 1 : Nat) : Int))), (1, .int (zI (ndF co (i + 1)))), (0, .ref b)]) (LC (vz (by omega)) (LC (vz (by rw [ndF_s]; first | rw [if_pos (c := co 3 (i : Int) = 0 ∧ 0 < co 6 (i : Int) ∧ (ndF co i < 0 ∨ rkD co (i : Int) < rkD co (ndF co i))) (by omega)] | rw [if_neg (c := co 3 (i : Int) = 0 ∧ 0 < co 6 (i : Int) ∧ (ndF co i < 0 ∨ rkD co (i : Int) < rkD co (ndF co i))) (by omega)])) (LC rfl rfl))) (ih_i (by omega) _ _ hM h_mo)
          · skip
            refine v_aload_n X dX10_nextToDecide_46 47 rfl 3 rfl ?_
            refine v_iload_n X dX10_nextToDecide_47 48 rfl 1 rfl ?_
            refine v_rdV X hM.C h_mo.1 (c_X10_rankOf l E b mo co (i : Int) hO hR (by omega) (by omega)) kvX10_rankOf kiX10_rankOf kl_X10_153 rfl rfl (As := [.int (zI (i : Int))]) rfl rfl rfl dX10_nextToDecide_48 51 rfl ?_
            show V p l e (rmL 3 0 0) s m args below meth cd Q 4 H1 lo1 0 0 51 [(3, .int (zI 1)), (2, .int (zI (i : Int))), (1, .int (zI (ndF co i))), (0, .ref b)] [.int (zI (sumZ (fun j => bz (co 3 j = 0 ∧ cbC co j (i : Int))) (co 0 0).toNat))]
            have hf_18 := cnt_b (fun j => co 3 j = 0 ∧ cbC co j (i : Int)) (co 0 0).toNat
            refine V_S (st' := [.int (zI (rkD co (i : Int)))]) (by rfl) ?_
            have hrk_19 := rkD_b co (i : Int)
            refine v_aload_n X dX10_nextToDecide_51 52 rfl 3 rfl ?_
            refine v_iload_n X dX10_nextToDecide_52 53 rfl 2 rfl ?_
            refine v_rdV X hM.C h_mo.1 (c_X10_rankOf l E b mo co (ndF co i) hO hR (by omega) (by omega)) kvX10_rankOf kiX10_rankOf kl_X10_153 rfl rfl (As := [.int (zI (ndF co i))]) rfl rfl rfl dX10_nextToDecide_53 56 rfl ?_
            show V p l e (rmL 3 0 0) s m args below meth cd Q 4 H1 lo1 0 0 56 [(3, .int (zI 1)), (2, .int (zI (i : Int))), (1, .int (zI (ndF co i))), (0, .ref b)] [.int (zI (sumZ (fun j => bz (co 3 j = 0 ∧ cbC co j (ndF co i))) (co 0 0).toNat)), .int (zI (rkD co (i : Int)))]
            have hf_20 := cnt_b (fun j => co 3 j = 0 ∧ cbC co j (ndF co i)) (co 0 0).toNat
            refine V_S (st' := [.int (zI (rkD co (ndF co i))), .int (zI (rkD co (i : Int)))]) (by rfl) ?_
            have hrk_21 := rkD_b co (ndF co i)
            refine v_icmp_ge X (by omega) (by omega) dX10_nextToDecide_56 59 63 rfl (by decide) (fun c_22 => ?_) (fun c_22 => ?_)
            · skip
              refine v_iload_n X dX10_nextToDecide_63 64 rfl 2 rfl ?_
              refine v_istore_n X dX10_nextToDecide_64 65 rfl rfl (by decide) (L' := [(1, .int (zI (ndF co i))), (3, .int (zI 1)), (2, .int (zI (i : Int))), (0, .ref b)]) rfl ?_
              refine v_iinc X dX10_nextToDecide_65 68 rfl 2 rfl (by decide) (L' := [(2, .int (zI ((i : Int) + 1))), (1, .int (zI (ndF co i))), (3, .int (zI 1)), (0, .ref b)]) rfl ?_
              refine v_goto X dX10_nextToDecide_68 4 (by decide) ?_
              refine v_locals [0, 1, 3] (L' := [(2, .int (zI ((i : Int) + 1))), (1, .int (zI (ndF co i))), (0, .ref b)]) rfl ?_
              exact V_L (L' := [(2, .int (zI ((i + 1 : Nat) : Int))), (1, .int (zI (ndF co (i + 1)))), (0, .ref b)]) (LC (vz (by omega)) (LC (vz (by rw [ndF_s]; first | rw [if_pos (c := co 3 (i : Int) = 0 ∧ 0 < co 6 (i : Int) ∧ (ndF co i < 0 ∨ rkD co (i : Int) < rkD co (ndF co i))) (by omega)] | rw [if_neg (c := co 3 (i : Int) = 0 ∧ 0 < co 6 (i : Int) ∧ (ndF co i < 0 ∨ rkD co (i : Int) < rkD co (ndF co i))) (by omega)])) (LC rfl rfl))) (ih_i (by omega) _ _ hM h_mo)
            · skip
              refine v_iload_n X dX10_nextToDecide_59 60 rfl 1 rfl ?_
              refine v_goto X dX10_nextToDecide_60 64 (by decide) ?_
              refine v_istore_n X dX10_nextToDecide_64 65 rfl rfl (by decide) (L' := [(1, .int (zI (i : Int))), (3, .int (zI 1)), (2, .int (zI (i : Int))), (0, .ref b)]) rfl ?_
              refine v_iinc X dX10_nextToDecide_65 68 rfl 2 rfl (by decide) (L' := [(2, .int (zI ((i : Int) + 1))), (1, .int (zI (i : Int))), (3, .int (zI 1)), (0, .ref b)]) rfl ?_
              refine v_goto X dX10_nextToDecide_68 4 (by decide) ?_
              refine v_locals [0, 1, 3] (L' := [(2, .int (zI ((i : Int) + 1))), (1, .int (zI (i : Int))), (0, .ref b)]) rfl ?_
              exact V_L (L' := [(2, .int (zI ((i + 1 : Nat) : Int))), (1, .int (zI (ndF co (i + 1)))), (0, .ref b)]) (LC (vz (by omega)) (LC (vz (by rw [ndF_s]; first | rw [if_pos (c := co 3 (i : Int) = 0 ∧ 0 < co 6 (i : Int) ∧ (ndF co i < 0 ∨ rkD co (i : Int) < rkD co (ndF co i))) (by omega)] | rw [if_neg (c := co 3 (i : Int) = 0 ∧ 0 < co 6 (i : Int) ∧ (ndF co i < 0 ∨ rkD co (i : Int) < rkD co (ndF co i))) (by omega)])) (LC rfl rfl))) (ih_i (by omega) _ _ hM h_mo)
set_option maxHeartbeats 4000000 in
set_option maxRecDepth 20000 in
theorem c_X10_guiltyCount (l : Launch) (E : Nat → Nat → Nat) (b : Nat) (mo : Nat → Int → Int) (co : Nat → Int → Int) (hO : OkC co) (hR : RelC co (mo 1)) (hSt : StI co) : Mu l yX10_guiltyCount cX10_guiltyCount 1 (some .int) 2 0 0 E [(b, 5)] [.ref b] (fun H => PR E b (modelW E b mo) H) (fun rv H => rv = some (.int (zI (sumZ (fun j => bz (¬ co 4 j = 0)) (co 0 0).toNat))) ∧ PR E b (modelW E b (updC mo 0 (updZ (mo 0) 0 0))) H) := by
  refine Mu.start (own := RX10) rfl (by decide +kernel) (Nat.le_of_ble_eq_true rfl) ?_
  intro p e s m below meth cd args Q hQ X hr hlk hnm hM hPr
  have h_mo := hPr
  have hb0 := hO.b0
  have hbw := hO.bw
  have hr0 := hR.s0
  have hr1 := hR.s1
  refine v_aload_n X dX10_guiltyCount_0 1 rfl 0 rfl ?_
  refine v_iconst X dX10_guiltyCount_1 2 rfl ?_
  refine v_putf X hM h_mo ftX10 0 rfl rfl 0 (by decide) kf_X10_30 (fun _ h => h) rfl rfl rfl (Nat.le_of_ble_eq_true rfl) (Or.inl (fsH (by omega) (by omega))) dX10_guiltyCount_2 5 rfl (ws' := modelW E b (updC mo 0 (updZ (mo 0) 0 0))) rfl (fun H1 lo1 hzz hM hF h_mo => ?_)
  clear hzz
  refine v_aload_n X dX10_guiltyCount_5 6 rfl 0 rfl ?_
  refine v_iconst X dX10_guiltyCount_6 7 rfl ?_
  refine v_iconst X dX10_guiltyCount_7 8 rfl ?_
  refine v_rdV X hM.C h_mo.1 (c_X10_inPhase_1g l E b (updC mo 0 (updZ (mo 0) 0 0)) co hO hR) kvX10_inPhase kiX10_inPhase kl_X10_118 rfl rfl (As := [.int (zI 1), .int (zI 1)]) rfl rfl rfl dX10_guiltyCount_8 11 rfl ?_
  show V p l e (rmL 2 0 0) s m args below meth cd Q 1 H1 lo1 0 0 11 [(0, .ref b)] [.int (zI (sumZ (fun j => bz (co 3 j = 1 ∧ co 4 j = 1)) (co 0 0).toNat))]
  have hb_2 := hO.b0
  have hf_3 := cnt_b (fun j => co 3 j = 1 ∧ co 4 j = 1) (co 0 0).toNat
  refine v_aload_n X dX10_guiltyCount_11 12 rfl 0 rfl ?_
  refine v_iconst X dX10_guiltyCount_12 13 rfl ?_
  refine v_iconst X dX10_guiltyCount_13 14 rfl ?_
  refine v_rdV X hM.C h_mo.1 (c_X10_inPhase_2g l E b (updC mo 0 (updZ (mo 0) 0 0)) co hO hR) kvX10_inPhase kiX10_inPhase kl_X10_118 rfl rfl (As := [.int (zI 2), .int (zI 1)]) rfl rfl rfl dX10_guiltyCount_14 17 rfl ?_
  show V p l e (rmL 2 0 0) s m args below meth cd Q 1 H1 lo1 0 0 17 [(0, .ref b)] [.int (zI (sumZ (fun j => bz (co 3 j = 2 ∧ co 4 j = 1)) (co 0 0).toNat)), .int (zI (sumZ (fun j => bz (co 3 j = 1 ∧ co 4 j = 1)) (co 0 0).toNat))]
  have hf_4 := cnt_b (fun j => co 3 j = 2 ∧ co 4 j = 1) (co 0 0).toNat
  refine v_iadd X dX10_guiltyCount_17 18 rfl ?_
  subst hQ; exact m_iret X hr hlk hM dX10_guiltyCount_18 rfl ⟨(sv (by exact (gcM hO hSt).symm)), h_mo⟩
set_option maxHeartbeats 4000000 in
set_option maxRecDepth 20000 in
theorem c_X10_meanCredibility (l : Launch) (E : Nat → Nat → Nat) (b : Nat) (mo : Nat → Int → Int) (co : Nat → Int → Int) (hO : OkC co) (hR : RelC co (mo 1)) (p0 : ¬ co 0 1 = 0) : Mu l yX10_meanCredibility cX10_meanCredibility 4 (some .double) 1 0 0 E [(b, 5)] [.ref b] (fun H => PR E b (modelW E b mo) H) (fun rv H => rv = some (.double (dvD (sumZ (fun j => co 11 j) (co 0 1).toNat) (co 0 1))) ∧ PR E b (modelW E b (updC mo 0 (updZ (mo 0) 0 0))) H) := by
  refine Mu.start (own := RX10) rfl (by decide +kernel) (Nat.le_of_ble_eq_true rfl) ?_
  intro p e s m below meth cd args Q hQ X hr hlk hnm hM hPr
  have h_mo := hPr
  have hb0 := hO.b0
  have hbw := hO.bw
  have hr0 := hR.s0
  have hr1 := hR.s1
  have hcs := sumZ_b (f := fun j => co 11 j) (lo := 0) (hi := 9) (n := (co 0 1).toNat) (fun j _ _ => hO.b11 j)
  refine v_aload_n X dX10_meanCredibility_0 1 rfl 0 rfl ?_
  refine v_getf X hM.C h_mo.1 inX10 0 rfl rfl 1 (by decide) kf_X10_9 (fun _ h => h) rfl dX10_meanCredibility_1 4 rfl ?_
  refine v_iconst X dX10_meanCredibility_4 5 rfl ?_
  refine v_iald X hM.C h_mo.1 1 rfl (by omega) (by omega) (by omega) dX10_meanCredibility_5 6 rfl ?_
  show V p l e (rmL 1 0 0) s m args below meth cd Q 4 s.heap [] 0 0 6 [(0, .ref b)] [.int (zI (mo 1 1))]
  refine v_istore_n X dX10_meanCredibility_6 7 rfl rfl (by decide) (L' := [(1, .int (zI (mo 1 1))), (0, .ref b)]) rfl ?_
  refine V_L (L' := [(1, .int (zI (co 0 1))), (0, .ref b)]) (LC (vz (by omega)) (LC rfl rfl)) ?_
  refine v_aload_n X dX10_meanCredibility_7 8 rfl 1 rfl ?_
  refine v_iload_n X dX10_meanCredibility_8 9 rfl 0 rfl ?_
  have hb_2 := hO.bw
  refine v_if_le X (by omega) dX10_meanCredibility_9 12 16 rfl (by decide) (fun c_1 => ?_) (fun c_1 => ?_)
  · skip
    refine v_iconst X dX10_meanCredibility_16 17 rfl ?_
    refine v_muV X hM (h_mo.1) (c_X10_isFine_0 l E b mo) kvX10_isFine kiX10_isFine kl_X10_124 (q0 := 0) rfl rfl (As := [.int (zI 0)]) rfl rfl rfl dX10_meanCredibility_17 20 rfl (k' := 0) (n' := 0) rfl rfl (fsI (fun q q1 q2 => (Or.inl (fsH (by omega) (by omega))))) h_mo (fun rv H3 lo3 hM hF hpo => ?_)
    obtain ⟨rfl, hw_0⟩ := hpo
    have h_mo : PR E b (modelW E b (updC mo 0 (updZ (mo 0) 0 1))) H3 := hw_0
    show V p l e (rmL 1 0 0) s m args below meth cd Q 4 H3 lo3 0 0 20 [(1, .int (zI (co 0 1))), (0, .ref b)] [.int (zI 0)]
    refine v_if_ne X (by omega) dX10_meanCredibility_20 23 25 rfl (by decide) (fun c_4 => ?_) (fun c_4 => ?_)
    · skip
      exfalso; omega
    · skip
      refine v_dconst0 X dX10_meanCredibility_23 24 rfl ?_
      exfalso; omega
  · skip
    refine v_iconst X dX10_meanCredibility_12 13 rfl ?_
    refine v_goto X dX10_meanCredibility_13 17 (by decide) ?_
    refine v_muV X hM (h_mo.1) (c_X10_isFine_1 l E b mo) kvX10_isFine kiX10_isFine kl_X10_124 (q0 := 0) rfl rfl (As := [.int (zI 1)]) rfl rfl rfl dX10_meanCredibility_17 20 rfl (k' := 0) (n' := 0) rfl rfl (fsI (fun q q1 q2 => (Or.inl (fsH (by omega) (by omega))))) h_mo (fun rv H5 lo5 hM hF hpo => ?_)
    obtain ⟨rfl, hw_0⟩ := hpo
    have h_mo : PR E b (modelW E b (updC mo 0 (updZ (mo 0) 0 0))) H5 := hw_0
    show V p l e (rmL 1 0 0) s m args below meth cd Q 4 H5 lo5 0 0 20 [(1, .int (zI (co 0 1))), (0, .ref b)] [.int (zI 1)]
    refine v_if_ne X (by omega) dX10_meanCredibility_20 23 25 rfl (by decide) (fun c_6 => ?_) (fun c_6 => ?_)
    · skip
      refine v_iconst X dX10_meanCredibility_25 26 rfl ?_
      refine v_istore_n X dX10_meanCredibility_26 27 rfl rfl (by decide) (L' := [(2, .int (zI 0)), (1, .int (zI (co 0 1))), (0, .ref b)]) rfl ?_
      refine v_iconst X dX10_meanCredibility_27 28 rfl ?_
      refine v_istore_n X dX10_meanCredibility_28 29 rfl rfl (by decide) (L' := [(3, .int (zI 0)), (2, .int (zI 0)), (1, .int (zI (co 0 1))), (0, .ref b)]) rfl ?_
      refine V_L (L' := [(3, .int (zI 0)), (2, .int (zI (sumZ (fun j => co 11 j) 0))), (1, .int (zI (co 0 1))), (0, .ref b)]) (LC rfl (LC (vz (by rfl)) (LC rfl (LC rfl rfl)))) ?_
      refine up_loop ((co 0 1).toNat) (P := fun (i : Nat) => ∀ (H : Heap) (lo : List Loc), MS E [(b, 5)] s H lo → PR E b (modelW E b (updC mo 0 (updZ (mo 0) 0 0))) H → V p l e (rmL 1 0 0) s m args below meth cd Q 4 H lo 0 0 29 [(3, .int (zI (i : Int))), (2, .int (zI (sumZ (fun j => co 11 j) i))), (1, .int (zI (co 0 1))), (0, .ref b)] []) (fun i hi_i ih_i H7 lo7 hM h_mo => ?_) _ _ hM h_mo
      refine v_iload_n X dX10_meanCredibility_29 30 rfl 0 rfl ?_
      refine v_iload_n X dX10_meanCredibility_30 31 rfl 2 rfl ?_
      refine v_icmp_ge X (by omega) (by omega) dX10_meanCredibility_31 34 51 rfl (by decide) (fun c_8 => ?_) (fun c_8 => ?_)
      · skip
        refine v_iload_n X dX10_meanCredibility_51 52 rfl 1 rfl ?_
        refine V_S (st' := [.int (zI (sumZ (fun j => co 11 j) (co 0 1).toNat))]) (by rw [show i = (co 0 1).toNat by omega]) ?_
        refine v_i2d X dX10_meanCredibility_52 53 rfl ?_
        refine v_iload_n X dX10_meanCredibility_53 54 rfl 2 rfl ?_
        refine v_i2d X dX10_meanCredibility_54 55 rfl ?_
        refine v_ddiv X ((dvD_ok (by omega) (by omega) (by omega) (by omega)).1) dX10_meanCredibility_55 56 rfl ?_
        subst hQ; exact m_dret X hr hlk hM dX10_meanCredibility_56 rfl ⟨rfl, h_mo⟩
      · skip
        refine v_iload_n X dX10_meanCredibility_34 35 rfl 1 rfl ?_
        refine v_aload_n X dX10_meanCredibility_35 36 rfl 3 rfl ?_
        refine v_getf X hM.C h_mo.1 inX10 0 rfl rfl 1 (by decide) kf_X10_9 (fun _ h => h) rfl dX10_meanCredibility_36 39 rfl ?_
        refine v_iconst X dX10_meanCredibility_39 40 rfl ?_
        refine v_iload_n X dX10_meanCredibility_40 41 rfl 0 rfl ?_
        refine v_iadd X dX10_meanCredibility_41 42 rfl ?_
        refine v_iald X hM.C h_mo.1 1 rfl (by omega) (by omega) (by omega) dX10_meanCredibility_42 43 rfl ?_
        show V p l e (rmL 1 0 0) s m args below meth cd Q 4 H7 lo7 0 0 43 [(3, .int (zI (i : Int))), (2, .int (zI (sumZ (fun j => co 11 j) i))), (1, .int (zI (co 0 1))), (0, .ref b)] [.int (zI (mo 1 (4 + (i : Int)))), .int (zI (sumZ (fun j => co 11 j) i))]
        refine V_S (st' := [.int (zI (co 11 (i : Int))), .int (zI (sumZ (fun j => co 11 j) i))]) (by rw [hR.w (by omega) (by omega)]) ?_
        refine v_iadd X dX10_meanCredibility_43 44 rfl ?_
        refine v_istore_n X dX10_meanCredibility_44 45 rfl rfl (by decide) (L' := [(2, .int (zI (sumZ (fun j => co 11 j) i + co 11 (i : Int)))), (3, .int (zI (i : Int))), (1, .int (zI (co 0 1))), (0, .ref b)]) rfl ?_
        refine v_iinc X dX10_meanCredibility_45 48 rfl 1 rfl (by decide) (L' := [(3, .int (zI ((i : Int) + 1))), (2, .int (zI (sumZ (fun j => co 11 j) i + co 11 (i : Int)))), (1, .int (zI (co 0 1))), (0, .ref b)]) rfl ?_
        refine v_goto X dX10_meanCredibility_48 29 (by decide) ?_
        have hb_9 := hO.b11 (i : Int)
        exact V_L (L' := [(3, .int (zI ((i + 1 : Nat) : Int))), (2, .int (zI (sumZ (fun j => co 11 j) (i + 1)))), (1, .int (zI (co 0 1))), (0, .ref b)]) (LC (vz (by omega)) (LC (vz (by rw [sumZ_s])) (LC rfl (LC rfl rfl)))) (ih_i (by omega) _ _ hM h_mo)
    · skip
      exfalso; omega
set_option maxHeartbeats 4000000 in
set_option maxRecDepth 20000 in
theorem c_X10_meanCredibility_0 (l : Launch) (E : Nat → Nat → Nat) (b : Nat) (mo : Nat → Int → Int) (co : Nat → Int → Int) (hO : OkC co) (hR : RelC co (mo 1)) (nk : ¬ (¬ co 0 1 = 0)) : Mu l yX10_meanCredibility cX10_meanCredibility 4 (some .double) 1 0 0 E [(b, 5)] [.ref b] (fun H => PR E b (modelW E b mo) H) (fun rv H => rv = some (.double FP.dconst0) ∧ PR E b (modelW E b (updC mo 0 (updZ (mo 0) 0 1))) H) := by
  refine Mu.start (own := RX10) rfl (by decide +kernel) (Nat.le_of_ble_eq_true rfl) ?_
  intro p e s m below meth cd args Q hQ X hr hlk hnm hM hPr
  have h_mo := hPr
  have hb0 := hO.b0
  have hbw := hO.bw
  have hr0 := hR.s0
  have hr1 := hR.s1
  have hcs := sumZ_b (f := fun j => co 11 j) (lo := 0) (hi := 9) (n := (co 0 1).toNat) (fun j _ _ => hO.b11 j)
  refine v_aload_n X dX10_meanCredibility_0 1 rfl 0 rfl ?_
  refine v_getf X hM.C h_mo.1 inX10 0 rfl rfl 1 (by decide) kf_X10_9 (fun _ h => h) rfl dX10_meanCredibility_1 4 rfl ?_
  refine v_iconst X dX10_meanCredibility_4 5 rfl ?_
  refine v_iald X hM.C h_mo.1 1 rfl (by omega) (by omega) (by omega) dX10_meanCredibility_5 6 rfl ?_
  show V p l e (rmL 1 0 0) s m args below meth cd Q 4 s.heap [] 0 0 6 [(0, .ref b)] [.int (zI (mo 1 1))]
  refine v_istore_n X dX10_meanCredibility_6 7 rfl rfl (by decide) (L' := [(1, .int (zI (mo 1 1))), (0, .ref b)]) rfl ?_
  refine V_L (L' := [(1, .int (zI (co 0 1))), (0, .ref b)]) (LC (vz (by omega)) (LC rfl rfl)) ?_
  refine v_aload_n X dX10_meanCredibility_7 8 rfl 1 rfl ?_
  refine v_iload_n X dX10_meanCredibility_8 9 rfl 0 rfl ?_
  have hb_2 := hO.bw
  refine v_if_le X (by omega) dX10_meanCredibility_9 12 16 rfl (by decide) (fun c_1 => ?_) (fun c_1 => ?_)
  · skip
    refine v_iconst X dX10_meanCredibility_16 17 rfl ?_
    refine v_muV X hM (h_mo.1) (c_X10_isFine_0 l E b mo) kvX10_isFine kiX10_isFine kl_X10_124 (q0 := 0) rfl rfl (As := [.int (zI 0)]) rfl rfl rfl dX10_meanCredibility_17 20 rfl (k' := 0) (n' := 0) rfl rfl (fsI (fun q q1 q2 => (Or.inl (fsH (by omega) (by omega))))) h_mo (fun rv H3 lo3 hM hF hpo => ?_)
    obtain ⟨rfl, hw_0⟩ := hpo
    have h_mo : PR E b (modelW E b (updC mo 0 (updZ (mo 0) 0 1))) H3 := hw_0
    show V p l e (rmL 1 0 0) s m args below meth cd Q 4 H3 lo3 0 0 20 [(1, .int (zI (co 0 1))), (0, .ref b)] [.int (zI 0)]
    refine v_if_ne X (by omega) dX10_meanCredibility_20 23 25 rfl (by decide) (fun c_4 => ?_) (fun c_4 => ?_)
    · skip
      exfalso; omega
    · skip
      refine v_dconst0 X dX10_meanCredibility_23 24 rfl ?_
      subst hQ; exact m_dret X hr hlk hM dX10_meanCredibility_24 rfl ⟨rfl, h_mo⟩
  · skip
    refine v_iconst X dX10_meanCredibility_12 13 rfl ?_
    refine v_goto X dX10_meanCredibility_13 17 (by decide) ?_
    refine v_muV X hM (h_mo.1) (c_X10_isFine_1 l E b mo) kvX10_isFine kiX10_isFine kl_X10_124 (q0 := 0) rfl rfl (As := [.int (zI 1)]) rfl rfl rfl dX10_meanCredibility_17 20 rfl (k' := 0) (n' := 0) rfl rfl (fsI (fun q q1 q2 => (Or.inl (fsH (by omega) (by omega))))) h_mo (fun rv H5 lo5 hM hF hpo => ?_)
    obtain ⟨rfl, hw_0⟩ := hpo
    have h_mo : PR E b (modelW E b (updC mo 0 (updZ (mo 0) 0 0))) H5 := hw_0
    show V p l e (rmL 1 0 0) s m args below meth cd Q 4 H5 lo5 0 0 20 [(1, .int (zI (co 0 1))), (0, .ref b)] [.int (zI 1)]
    refine v_if_ne X (by omega) dX10_meanCredibility_20 23 25 rfl (by decide) (fun c_6 => ?_) (fun c_6 => ?_)
    · skip
      refine v_iconst X dX10_meanCredibility_25 26 rfl ?_
      refine v_istore_n X dX10_meanCredibility_26 27 rfl rfl (by decide) (L' := [(2, .int (zI 0)), (1, .int (zI (co 0 1))), (0, .ref b)]) rfl ?_
      refine v_iconst X dX10_meanCredibility_27 28 rfl ?_
      refine v_istore_n X dX10_meanCredibility_28 29 rfl rfl (by decide) (L' := [(3, .int (zI 0)), (2, .int (zI 0)), (1, .int (zI (co 0 1))), (0, .ref b)]) rfl ?_
      refine V_L (L' := [(3, .int (zI 0)), (2, .int (zI (sumZ (fun j => co 11 j) 0))), (1, .int (zI (co 0 1))), (0, .ref b)]) (LC rfl (LC (vz (by rfl)) (LC rfl (LC rfl rfl)))) ?_
      refine up_loop ((co 0 1).toNat) (P := fun (i : Nat) => ∀ (H : Heap) (lo : List Loc), MS E [(b, 5)] s H lo → PR E b (modelW E b (updC mo 0 (updZ (mo 0) 0 0))) H → V p l e (rmL 1 0 0) s m args below meth cd Q 4 H lo 0 0 29 [(3, .int (zI (i : Int))), (2, .int (zI (sumZ (fun j => co 11 j) i))), (1, .int (zI (co 0 1))), (0, .ref b)] []) (fun i hi_i ih_i H7 lo7 hM h_mo => ?_) _ _ hM h_mo
      refine v_iload_n X dX10_meanCredibility_29 30 rfl 0 rfl ?_
      refine v_iload_n X dX10_meanCredibility_30 31 rfl 2 rfl ?_
      refine v_icmp_ge X (by omega) (by omega) dX10_meanCredibility_31 34 51 rfl (by decide) (fun c_8 => ?_) (fun c_8 => ?_)
      · skip
        refine v_iload_n X dX10_meanCredibility_51 52 rfl 1 rfl ?_
        refine V_S (st' := [.int (zI (sumZ (fun j => co 11 j) (co 0 1).toNat))]) (by rw [show i = (co 0 1).toNat by omega]) ?_
        refine v_i2d X dX10_meanCredibility_52 53 rfl ?_
        refine v_iload_n X dX10_meanCredibility_53 54 rfl 2 rfl ?_
        refine v_i2d X dX10_meanCredibility_54 55 rfl ?_
        refine v_ddiv X ((dvD_ok (by omega) (by omega) (by omega) (by omega)).1) dX10_meanCredibility_55 56 rfl ?_
        exfalso; omega
      · skip
        refine v_iload_n X dX10_meanCredibility_34 35 rfl 1 rfl ?_
        refine v_aload_n X dX10_meanCredibility_35 36 rfl 3 rfl ?_
        refine v_getf X hM.C h_mo.1 inX10 0 rfl rfl 1 (by decide) kf_X10_9 (fun _ h => h) rfl dX10_meanCredibility_36 39 rfl ?_
        refine v_iconst X dX10_meanCredibility_39 40 rfl ?_
        refine v_iload_n X dX10_meanCredibility_40 41 rfl 0 rfl ?_
        refine v_iadd X dX10_meanCredibility_41 42 rfl ?_
        refine v_iald X hM.C h_mo.1 1 rfl (by omega) (by omega) (by omega) dX10_meanCredibility_42 43 rfl ?_
        show V p l e (rmL 1 0 0) s m args below meth cd Q 4 H7 lo7 0 0 43 [(3, .int (zI (i : Int))), (2, .int (zI (sumZ (fun j => co 11 j) i))), (1, .int (zI (co 0 1))), (0, .ref b)] [.int (zI (mo 1 (4 + (i : Int)))), .int (zI (sumZ (fun j => co 11 j) i))]
        refine V_S (st' := [.int (zI (co 11 (i : Int))), .int (zI (sumZ (fun j => co 11 j) i))]) (by rw [hR.w (by omega) (by omega)]) ?_
        refine v_iadd X dX10_meanCredibility_43 44 rfl ?_
        refine v_istore_n X dX10_meanCredibility_44 45 rfl rfl (by decide) (L' := [(2, .int (zI (sumZ (fun j => co 11 j) i + co 11 (i : Int)))), (3, .int (zI (i : Int))), (1, .int (zI (co 0 1))), (0, .ref b)]) rfl ?_
        refine v_iinc X dX10_meanCredibility_45 48 rfl 1 rfl (by decide) (L' := [(3, .int (zI ((i : Int) + 1))), (2, .int (zI (sumZ (fun j => co 11 j) i + co 11 (i : Int)))), (1, .int (zI (co 0 1))), (0, .ref b)]) rfl ?_
        refine v_goto X dX10_meanCredibility_48 29 (by decide) ?_
        have hb_9 := hO.b11 (i : Int)
        exact V_L (L' := [(3, .int (zI ((i + 1 : Nat) : Int))), (2, .int (zI (sumZ (fun j => co 11 j) (i + 1)))), (1, .int (zI (co 0 1))), (0, .ref b)]) (LC (vz (by omega)) (LC (vz (by rw [sumZ_s])) (LC rfl (LC rfl rfl)))) (ih_i (by omega) _ _ hM h_mo)
    · skip
      exfalso; omega
set_option maxHeartbeats 4000000 in
set_option maxRecDepth 20000 in
theorem c_X10_guiltyShare (l : Launch) (E : Nat → Nat → Nat) (b : Nat) (mo : Nat → Int → Int) (co : Nat → Int → Int) (hO : OkC co) (hR : RelC co (mo 1)) (hSt : StI co) (p0 : ¬ sumZ (fun j => bz (co 3 j = 1)) (co 0 0).toNat + sumZ (fun j => bz (co 3 j = 2)) (co 0 0).toNat = 0) : Mu l yX10_guiltyShare cX10_guiltyShare 2 (some .float) 2 0 0 E [(b, 5)] [.ref b] (fun H => PR E b (modelW E b mo) H) (fun rv H => rv = some (.float (fvD (sumZ (fun j => bz (¬ co 4 j = 0)) (co 0 0).toNat) (sumZ (fun j => bz (co 3 j = 1)) (co 0 0).toNat + sumZ (fun j => bz (co 3 j = 2)) (co 0 0).toNat))) ∧ PR E b (modelW E b (updC mo 0 (updZ (mo 0) 0 0))) H) := by
  refine Mu.start (own := RX10) rfl (by decide +kernel) (Nat.le_of_ble_eq_true rfl) ?_
  intro p e s m below meth cd args Q hQ X hr hlk hnm hM hPr
  have h_mo := hPr
  have hb0 := hO.b0
  have hbw := hO.bw
  have hr0 := hR.s0
  have hr1 := hR.s1
  have hg1 := cnt_b (fun j => co 3 j = 1) (co 0 0).toNat
  have hg2 := cnt_b (fun j => co 3 j = 2) (co 0 0).toNat
  have hg3 := cnt_b (fun j => ¬ co 4 j = 0) (co 0 0).toNat
  have hvc := vcM hO
  have hgc := gcM hO hSt
  refine v_aload_n X dX10_guiltyShare_0 1 rfl 0 rfl ?_
  refine v_getf X hM.C h_mo.1 inX10 0 rfl rfl 1 (by decide) kf_X10_9 (fun _ h => h) rfl dX10_guiltyShare_1 4 rfl ?_
  refine v_iconst X dX10_guiltyShare_4 5 rfl ?_
  refine v_iald X hM.C h_mo.1 1 rfl (by omega) (by omega) (by omega) dX10_guiltyShare_5 6 rfl ?_
  show V p l e (rmL 2 0 0) s m args below meth cd Q 2 s.heap [] 0 0 6 [(0, .ref b)] [.int (zI (mo 1 0))]
  refine v_aload_n X dX10_guiltyShare_6 7 rfl 0 rfl ?_
  refine v_iconst X dX10_guiltyShare_7 8 rfl ?_
  refine v_iconst X dX10_guiltyShare_8 9 rfl ?_
  refine v_rdV X hM.C h_mo.1 (c_X10_inPhase_0 l E b mo co hO hR) kvX10_inPhase kiX10_inPhase kl_X10_118 rfl rfl (As := [.int (zI 0), .int (zI (-1))]) rfl rfl rfl dX10_guiltyShare_9 12 rfl ?_
  show V p l e (rmL 2 0 0) s m args below meth cd Q 2 s.heap [] 0 0 12 [(0, .ref b)] [.int (zI (sumZ (fun j => bz (co 3 j = 0)) (co 0 0).toNat)), .int (zI (mo 1 0))]
  have hb_1 := hO.b0
  have hf_2 := cnt_b (fun j => co 3 j = 0) (co 0 0).toNat
  refine v_isub X dX10_guiltyShare_12 13 rfl ?_
  refine v_istore_n X dX10_guiltyShare_13 14 rfl rfl (by decide) (L' := [(1, .int (zI (mo 1 0 - sumZ (fun j => bz (co 3 j = 0)) (co 0 0).toNat))), (0, .ref b)]) rfl ?_
  refine V_L (L' := [(1, .int (zI (sumZ (fun j => bz (co 3 j = 1)) (co 0 0).toNat + sumZ (fun j => bz (co 3 j = 2)) (co 0 0).toNat))), (0, .ref b)]) (LC (vz (by omega)) (LC rfl rfl)) ?_
  refine v_aload_n X dX10_guiltyShare_14 15 rfl 1 rfl ?_
  refine v_iload_n X dX10_guiltyShare_15 16 rfl 0 rfl ?_
  refine v_if_le X (by omega) dX10_guiltyShare_16 19 23 rfl (by decide) (fun c_3 => ?_) (fun c_3 => ?_)
  · skip
    refine v_iconst X dX10_guiltyShare_23 24 rfl ?_
    refine v_muV X hM (h_mo.1) (c_X10_isFine_0 l E b mo) kvX10_isFine kiX10_isFine kl_X10_124 (q0 := 0) rfl rfl (As := [.int (zI 0)]) rfl rfl rfl dX10_guiltyShare_24 27 rfl (k' := 0) (n' := 0) rfl rfl (fsI (fun q q1 q2 => (Or.inl (fsH (by omega) (by omega))))) h_mo (fun rv H4 lo4 hM hF hpo => ?_)
    obtain ⟨rfl, hw_0⟩ := hpo
    have h_mo : PR E b (modelW E b (updC mo 0 (updZ (mo 0) 0 1))) H4 := hw_0
    show V p l e (rmL 2 0 0) s m args below meth cd Q 2 H4 lo4 0 0 27 [(1, .int (zI (sumZ (fun j => bz (co 3 j = 1)) (co 0 0).toNat + sumZ (fun j => bz (co 3 j = 2)) (co 0 0).toNat))), (0, .ref b)] [.int (zI 0)]
    refine v_if_eq X (by omega) dX10_guiltyShare_27 30 50 rfl (by decide) (fun c_5 => ?_) (fun c_5 => ?_)
    · skip
      refine v_fconst0 X dX10_guiltyShare_50 51 rfl ?_
      exfalso; omega
    · skip
      exfalso; omega
  · skip
    refine v_iconst X dX10_guiltyShare_19 20 rfl ?_
    refine v_goto X dX10_guiltyShare_20 24 (by decide) ?_
    refine v_muV X hM (h_mo.1) (c_X10_isFine_1 l E b mo) kvX10_isFine kiX10_isFine kl_X10_124 (q0 := 0) rfl rfl (As := [.int (zI 1)]) rfl rfl rfl dX10_guiltyShare_24 27 rfl (k' := 0) (n' := 0) rfl rfl (fsI (fun q q1 q2 => (Or.inl (fsH (by omega) (by omega))))) h_mo (fun rv H6 lo6 hM hF hpo => ?_)
    obtain ⟨rfl, hw_0⟩ := hpo
    have h_mo : PR E b (modelW E b (updC mo 0 (updZ (mo 0) 0 0))) H6 := hw_0
    show V p l e (rmL 2 0 0) s m args below meth cd Q 2 H6 lo6 0 0 27 [(1, .int (zI (sumZ (fun j => bz (co 3 j = 1)) (co 0 0).toNat + sumZ (fun j => bz (co 3 j = 2)) (co 0 0).toNat))), (0, .ref b)] [.int (zI 1)]
    refine v_if_eq X (by omega) dX10_guiltyShare_27 30 50 rfl (by decide) (fun c_7 => ?_) (fun c_7 => ?_)
    · skip
      exfalso; omega
    · skip
      refine v_aload_n X dX10_guiltyShare_30 31 rfl 1 rfl ?_
      refine v_iconst X dX10_guiltyShare_31 32 rfl ?_
      refine v_iconst X dX10_guiltyShare_32 33 rfl ?_
      refine v_rdV X hM.C h_mo.1 (c_X10_inPhase_1g l E b (updC mo 0 (updZ (mo 0) 0 0)) co hO hR) kvX10_inPhase kiX10_inPhase kl_X10_118 rfl rfl (As := [.int (zI 1), .int (zI 1)]) rfl rfl rfl dX10_guiltyShare_33 36 rfl ?_
      show V p l e (rmL 2 0 0) s m args below meth cd Q 2 H6 lo6 0 0 36 [(1, .int (zI (sumZ (fun j => bz (co 3 j = 1)) (co 0 0).toNat + sumZ (fun j => bz (co 3 j = 2)) (co 0 0).toNat))), (0, .ref b)] [.int (zI (sumZ (fun j => bz (co 3 j = 1 ∧ co 4 j = 1)) (co 0 0).toNat))]
      have hf_8 := cnt_b (fun j => co 3 j = 1 ∧ co 4 j = 1) (co 0 0).toNat
      refine v_aload_n X dX10_guiltyShare_36 37 rfl 1 rfl ?_
      refine v_iconst X dX10_guiltyShare_37 38 rfl ?_
      refine v_iconst X dX10_guiltyShare_38 39 rfl ?_
      refine v_rdV X hM.C h_mo.1 (c_X10_inPhase_2g l E b (updC mo 0 (updZ (mo 0) 0 0)) co hO hR) kvX10_inPhase kiX10_inPhase kl_X10_118 rfl rfl (As := [.int (zI 2), .int (zI 1)]) rfl rfl rfl dX10_guiltyShare_39 42 rfl ?_
      show V p l e (rmL 2 0 0) s m args below meth cd Q 2 H6 lo6 0 0 42 [(1, .int (zI (sumZ (fun j => bz (co 3 j = 1)) (co 0 0).toNat + sumZ (fun j => bz (co 3 j = 2)) (co 0 0).toNat))), (0, .ref b)] [.int (zI (sumZ (fun j => bz (co 3 j = 2 ∧ co 4 j = 1)) (co 0 0).toNat)), .int (zI (sumZ (fun j => bz (co 3 j = 1 ∧ co 4 j = 1)) (co 0 0).toNat))]
      have hf_9 := cnt_b (fun j => co 3 j = 2 ∧ co 4 j = 1) (co 0 0).toNat
      refine v_iadd X dX10_guiltyShare_42 43 rfl ?_
      refine V_S (st' := [.int (zI (sumZ (fun j => bz (¬ co 4 j = 0)) (co 0 0).toNat))]) (by rw [hgc]) ?_
      refine v_i2f X dX10_guiltyShare_43 44 rfl ?_
      refine v_iload_n X dX10_guiltyShare_44 45 rfl 0 rfl ?_
      refine v_i2f X dX10_guiltyShare_45 46 rfl ?_
      refine v_fdiv X ((fvD_ok (by omega) (by omega) (by omega) (by omega)).1) dX10_guiltyShare_46 47 rfl ?_
      refine v_goto X dX10_guiltyShare_47 51 (by decide) ?_
      subst hQ; exact m_fret X hr hlk hM dX10_guiltyShare_51 rfl ⟨rfl, h_mo⟩
set_option maxHeartbeats 4000000 in
set_option maxRecDepth 20000 in
theorem c_X10_guiltyShare_0 (l : Launch) (E : Nat → Nat → Nat) (b : Nat) (mo : Nat → Int → Int) (co : Nat → Int → Int) (hO : OkC co) (hR : RelC co (mo 1)) (hSt : StI co) (nk : ¬ (¬ sumZ (fun j => bz (co 3 j = 1)) (co 0 0).toNat + sumZ (fun j => bz (co 3 j = 2)) (co 0 0).toNat = 0)) : Mu l yX10_guiltyShare cX10_guiltyShare 2 (some .float) 2 0 0 E [(b, 5)] [.ref b] (fun H => PR E b (modelW E b mo) H) (fun rv H => rv = some (.float FP.fconst0) ∧ PR E b (modelW E b (updC mo 0 (updZ (mo 0) 0 1))) H) := by
  refine Mu.start (own := RX10) rfl (by decide +kernel) (Nat.le_of_ble_eq_true rfl) ?_
  intro p e s m below meth cd args Q hQ X hr hlk hnm hM hPr
  have h_mo := hPr
  have hb0 := hO.b0
  have hbw := hO.bw
  have hr0 := hR.s0
  have hr1 := hR.s1
  have hg1 := cnt_b (fun j => co 3 j = 1) (co 0 0).toNat
  have hg2 := cnt_b (fun j => co 3 j = 2) (co 0 0).toNat
  have hg3 := cnt_b (fun j => ¬ co 4 j = 0) (co 0 0).toNat
  have hvc := vcM hO
  have hgc := gcM hO hSt
  refine v_aload_n X dX10_guiltyShare_0 1 rfl 0 rfl ?_
  refine v_getf X hM.C h_mo.1 inX10 0 rfl rfl 1 (by decide) kf_X10_9 (fun _ h => h) rfl dX10_guiltyShare_1 4 rfl ?_
  refine v_iconst X dX10_guiltyShare_4 5 rfl ?_
  refine v_iald X hM.C h_mo.1 1 rfl (by omega) (by omega) (by omega) dX10_guiltyShare_5 6 rfl ?_
  show V p l e (rmL 2 0 0) s m args below meth cd Q 2 s.heap [] 0 0 6 [(0, .ref b)] [.int (zI (mo 1 0))]
  refine v_aload_n X dX10_guiltyShare_6 7 rfl 0 rfl ?_
  refine v_iconst X dX10_guiltyShare_7 8 rfl ?_
  refine v_iconst X dX10_guiltyShare_8 9 rfl ?_
  refine v_rdV X hM.C h_mo.1 (c_X10_inPhase_0 l E b mo co hO hR) kvX10_inPhase kiX10_inPhase kl_X10_118 rfl rfl (As := [.int (zI 0), .int (zI (-1))]) rfl rfl rfl dX10_guiltyShare_9 12 rfl ?_
  show V p l e (rmL 2 0 0) s m args below meth cd Q 2 s.heap [] 0 0 12 [(0, .ref b)] [.int (zI (sumZ (fun j => bz (co 3 j = 0)) (co 0 0).toNat)), .int (zI (mo 1 0))]
  have hb_1 := hO.b0
  have hf_2 := cnt_b (fun j => co 3 j = 0) (co 0 0).toNat
  refine v_isub X dX10_guiltyShare_12 13 rfl ?_
  refine v_istore_n X dX10_guiltyShare_13 14 rfl rfl (by decide) (L' := [(1, .int (zI (mo 1 0 - sumZ (fun j => bz (co 3 j = 0)) (co 0 0).toNat))), (0, .ref b)]) rfl ?_
  refine V_L (L' := [(1, .int (zI (sumZ (fun j => bz (co 3 j = 1)) (co 0 0).toNat + sumZ (fun j => bz (co 3 j = 2)) (co 0 0).toNat))), (0, .ref b)]) (LC (vz (by omega)) (LC rfl rfl)) ?_
  refine v_aload_n X dX10_guiltyShare_14 15 rfl 1 rfl ?_
  refine v_iload_n X dX10_guiltyShare_15 16 rfl 0 rfl ?_
  refine v_if_le X (by omega) dX10_guiltyShare_16 19 23 rfl (by decide) (fun c_3 => ?_) (fun c_3 => ?_)
  · skip
    refine v_iconst X dX10_guiltyShare_23 24 rfl ?_
    refine v_muV X hM (h_mo.1) (c_X10_isFine_0 l E b mo) kvX10_isFine kiX10_isFine kl_X10_124 (q0 := 0) rfl rfl (As := [.int (zI 0)]) rfl rfl rfl dX10_guiltyShare_24 27 rfl (k' := 0) (n' := 0) rfl rfl (fsI (fun q q1 q2 => (Or.inl (fsH (by omega) (by omega))))) h_mo (fun rv H4 lo4 hM hF hpo => ?_)
    obtain ⟨rfl, hw_0⟩ := hpo
    have h_mo : PR E b (modelW E b (updC mo 0 (updZ (mo 0) 0 1))) H4 := hw_0
    show V p l e (rmL 2 0 0) s m args below meth cd Q 2 H4 lo4 0 0 27 [(1, .int (zI (sumZ (fun j => bz (co 3 j = 1)) (co 0 0).toNat + sumZ (fun j => bz (co 3 j = 2)) (co 0 0).toNat))), (0, .ref b)] [.int (zI 0)]
    refine v_if_eq X (by omega) dX10_guiltyShare_27 30 50 rfl (by decide) (fun c_5 => ?_) (fun c_5 => ?_)
    · skip
      refine v_fconst0 X dX10_guiltyShare_50 51 rfl ?_
      subst hQ; exact m_fret X hr hlk hM dX10_guiltyShare_51 rfl ⟨rfl, h_mo⟩
    · skip
      exfalso; omega
  · skip
    refine v_iconst X dX10_guiltyShare_19 20 rfl ?_
    refine v_goto X dX10_guiltyShare_20 24 (by decide) ?_
    refine v_muV X hM (h_mo.1) (c_X10_isFine_1 l E b mo) kvX10_isFine kiX10_isFine kl_X10_124 (q0 := 0) rfl rfl (As := [.int (zI 1)]) rfl rfl rfl dX10_guiltyShare_24 27 rfl (k' := 0) (n' := 0) rfl rfl (fsI (fun q q1 q2 => (Or.inl (fsH (by omega) (by omega))))) h_mo (fun rv H6 lo6 hM hF hpo => ?_)
    obtain ⟨rfl, hw_0⟩ := hpo
    have h_mo : PR E b (modelW E b (updC mo 0 (updZ (mo 0) 0 0))) H6 := hw_0
    show V p l e (rmL 2 0 0) s m args below meth cd Q 2 H6 lo6 0 0 27 [(1, .int (zI (sumZ (fun j => bz (co 3 j = 1)) (co 0 0).toNat + sumZ (fun j => bz (co 3 j = 2)) (co 0 0).toNat))), (0, .ref b)] [.int (zI 1)]
    refine v_if_eq X (by omega) dX10_guiltyShare_27 30 50 rfl (by decide) (fun c_7 => ?_) (fun c_7 => ?_)
    · skip
      exfalso; omega
    · skip
      refine v_aload_n X dX10_guiltyShare_30 31 rfl 1 rfl ?_
      refine v_iconst X dX10_guiltyShare_31 32 rfl ?_
      refine v_iconst X dX10_guiltyShare_32 33 rfl ?_
      refine v_rdV X hM.C h_mo.1 (c_X10_inPhase_1g l E b (updC mo 0 (updZ (mo 0) 0 0)) co hO hR) kvX10_inPhase kiX10_inPhase kl_X10_118 rfl rfl (As := [.int (zI 1), .int (zI 1)]) rfl rfl rfl dX10_guiltyShare_33 36 rfl ?_
      show V p l e (rmL 2 0 0) s m args below meth cd Q 2 H6 lo6 0 0 36 [(1, .int (zI (sumZ (fun j => bz (co 3 j = 1)) (co 0 0).toNat + sumZ (fun j => bz (co 3 j = 2)) (co 0 0).toNat))), (0, .ref b)] [.int (zI (sumZ (fun j => bz (co 3 j = 1 ∧ co 4 j = 1)) (co 0 0).toNat))]
      have hf_8 := cnt_b (fun j => co 3 j = 1 ∧ co 4 j = 1) (co 0 0).toNat
      refine v_aload_n X dX10_guiltyShare_36 37 rfl 1 rfl ?_
      refine v_iconst X dX10_guiltyShare_37 38 rfl ?_
      refine v_iconst X dX10_guiltyShare_38 39 rfl ?_
      refine v_rdV X hM.C h_mo.1 (c_X10_inPhase_2g l E b (updC mo 0 (updZ (mo 0) 0 0)) co hO hR) kvX10_inPhase kiX10_inPhase kl_X10_118 rfl rfl (As := [.int (zI 2), .int (zI 1)]) rfl rfl rfl dX10_guiltyShare_39 42 rfl ?_
      show V p l e (rmL 2 0 0) s m args below meth cd Q 2 H6 lo6 0 0 42 [(1, .int (zI (sumZ (fun j => bz (co 3 j = 1)) (co 0 0).toNat + sumZ (fun j => bz (co 3 j = 2)) (co 0 0).toNat))), (0, .ref b)] [.int (zI (sumZ (fun j => bz (co 3 j = 2 ∧ co 4 j = 1)) (co 0 0).toNat)), .int (zI (sumZ (fun j => bz (co 3 j = 1 ∧ co 4 j = 1)) (co 0 0).toNat))]
      have hf_9 := cnt_b (fun j => co 3 j = 2 ∧ co 4 j = 1) (co 0 0).toNat
      refine v_iadd X dX10_guiltyShare_42 43 rfl ?_
      refine V_S (st' := [.int (zI (sumZ (fun j => bz (¬ co 4 j = 0)) (co 0 0).toNat))]) (by rw [hgc]) ?_
      refine v_i2f X dX10_guiltyShare_43 44 rfl ?_
      refine v_iload_n X dX10_guiltyShare_44 45 rfl 0 rfl ?_
      refine v_i2f X dX10_guiltyShare_45 46 rfl ?_
      refine v_fdiv X ((fvD_ok (by omega) (by omega) (by omega) (by omega)).1) dX10_guiltyShare_46 47 rfl ?_
      refine v_goto X dX10_guiltyShare_47 51 (by decide) ?_
      exfalso; omega
set_option maxHeartbeats 4000000 in
set_option maxRecDepth 20000 in
theorem c_X10_errorPosition (l : Launch) (E : Nat → Nat → Nat) (b : Nat) (mo : Nat → Int → Int) (er : Int) (he : mo 0 11 = er) (ger : Rg er) (p0 : ¬ er = -1) : Mu l yX10_errorPosition cX10_errorPosition 1 (some .int) 1 0 0 E [(b, 5)] [.ref b] (fun H => PR E b (modelW E b mo) H) (fun rv H => rv = some (.int (zI er)) ∧ PR E b (modelW E b (updC mo 0 (updZ (mo 0) 0 0))) H) := by
  refine Mu.start (own := RX10) rfl (by decide +kernel) (Nat.le_of_ble_eq_true rfl) ?_
  intro p e s m below meth cd args Q hQ X hr hlk hnm hM hPr
  have h_mo := hPr
  refine v_aload_n X dX10_errorPosition_0 1 rfl 0 rfl ?_
  refine v_aload_n X dX10_errorPosition_1 2 rfl 0 rfl ?_
  refine v_getf X hM.C h_mo.1 inX10 0 rfl rfl 11 (by decide) kf_X10_20 (fun _ h => h) rfl dX10_errorPosition_2 5 rfl ?_
  show V p l e (rmL 1 0 0) s m args below meth cd Q 1 s.heap [] 0 0 5 [(0, .ref b)] [.int (zI (mo 0 11)), .ref b]
  refine v_iconst X dX10_errorPosition_5 6 rfl ?_
  refine v_icmp_eq X (by omega) (by omega) dX10_errorPosition_6 9 13 rfl (by decide) (fun c_1 => ?_) (fun c_1 => ?_)
  · skip
    refine v_iconst X dX10_errorPosition_13 14 rfl ?_
    refine v_muV X hM (h_mo.1) (c_X10_isFine_0 l E b mo) kvX10_isFine kiX10_isFine kl_X10_124 (q0 := 0) rfl rfl (As := [.int (zI 0)]) rfl rfl rfl dX10_errorPosition_14 17 rfl (k' := 0) (n' := 0) rfl rfl (fsI (fun q q1 q2 => (Or.inl (fsH (by omega) (by omega))))) h_mo (fun rv H2 lo2 hM hF hpo => ?_)
    obtain ⟨rfl, hw_0⟩ := hpo
    have h_mo : PR E b (modelW E b (updC mo 0 (updZ (mo 0) 0 1))) H2 := hw_0
    show V p l e (rmL 1 0 0) s m args below meth cd Q 1 H2 lo2 0 0 17 [(0, .ref b)] [.int (zI 0)]
    refine v_if_eq X (by omega) dX10_errorPosition_17 20 27 rfl (by decide) (fun c_3 => ?_) (fun c_3 => ?_)
    · skip
      refine v_iconst X dX10_errorPosition_27 28 rfl ?_
      exfalso; omega
    · skip
      exfalso; omega
  · skip
    refine v_iconst X dX10_errorPosition_9 10 rfl ?_
    refine v_goto X dX10_errorPosition_10 14 (by decide) ?_
    refine v_muV X hM (h_mo.1) (c_X10_isFine_1 l E b mo) kvX10_isFine kiX10_isFine kl_X10_124 (q0 := 0) rfl rfl (As := [.int (zI 1)]) rfl rfl rfl dX10_errorPosition_14 17 rfl (k' := 0) (n' := 0) rfl rfl (fsI (fun q q1 q2 => (Or.inl (fsH (by omega) (by omega))))) h_mo (fun rv H4 lo4 hM hF hpo => ?_)
    obtain ⟨rfl, hw_0⟩ := hpo
    have h_mo : PR E b (modelW E b (updC mo 0 (updZ (mo 0) 0 0))) H4 := hw_0
    show V p l e (rmL 1 0 0) s m args below meth cd Q 1 H4 lo4 0 0 17 [(0, .ref b)] [.int (zI 1)]
    refine v_if_eq X (by omega) dX10_errorPosition_17 20 27 rfl (by decide) (fun c_5 => ?_) (fun c_5 => ?_)
    · skip
      exfalso; omega
    · skip
      refine v_aload_n X dX10_errorPosition_20 21 rfl 0 rfl ?_
      refine v_getf X hM.C h_mo.1 inX10 0 rfl rfl 11 (by decide) kf_X10_20 (fun _ h => h) rfl dX10_errorPosition_21 24 rfl ?_
      show V p l e (rmL 1 0 0) s m args below meth cd Q 1 H4 lo4 0 0 24 [(0, .ref b)] [.int (zI (mo 0 11))]
      refine v_goto X dX10_errorPosition_24 28 (by decide) ?_
      subst hQ; exact m_iret X hr hlk hM dX10_errorPosition_28 rfl ⟨(sv (by omega)), h_mo⟩
set_option maxHeartbeats 4000000 in
set_option maxRecDepth 20000 in
theorem c_X10_errorPosition_0 (l : Launch) (E : Nat → Nat → Nat) (b : Nat) (mo : Nat → Int → Int) (er : Int) (he : mo 0 11 = er) (ger : Rg er) (nk : ¬ (¬ er = -1)) : Mu l yX10_errorPosition cX10_errorPosition 1 (some .int) 1 0 0 E [(b, 5)] [.ref b] (fun H => PR E b (modelW E b mo) H) (fun rv H => rv = some (.int (zI 0)) ∧ PR E b (modelW E b (updC mo 0 (updZ (mo 0) 0 1))) H) := by
  refine Mu.start (own := RX10) rfl (by decide +kernel) (Nat.le_of_ble_eq_true rfl) ?_
  intro p e s m below meth cd args Q hQ X hr hlk hnm hM hPr
  have h_mo := hPr
  refine v_aload_n X dX10_errorPosition_0 1 rfl 0 rfl ?_
  refine v_aload_n X dX10_errorPosition_1 2 rfl 0 rfl ?_
  refine v_getf X hM.C h_mo.1 inX10 0 rfl rfl 11 (by decide) kf_X10_20 (fun _ h => h) rfl dX10_errorPosition_2 5 rfl ?_
  show V p l e (rmL 1 0 0) s m args below meth cd Q 1 s.heap [] 0 0 5 [(0, .ref b)] [.int (zI (mo 0 11)), .ref b]
  refine v_iconst X dX10_errorPosition_5 6 rfl ?_
  refine v_icmp_eq X (by omega) (by omega) dX10_errorPosition_6 9 13 rfl (by decide) (fun c_1 => ?_) (fun c_1 => ?_)
  · skip
    refine v_iconst X dX10_errorPosition_13 14 rfl ?_
    refine v_muV X hM (h_mo.1) (c_X10_isFine_0 l E b mo) kvX10_isFine kiX10_isFine kl_X10_124 (q0 := 0) rfl rfl (As := [.int (zI 0)]) rfl rfl rfl dX10_errorPosition_14 17 rfl (k' := 0) (n' := 0) rfl rfl (fsI (fun q q1 q2 => (Or.inl (fsH (by omega) (by omega))))) h_mo (fun rv H2 lo2 hM hF hpo => ?_)
    obtain ⟨rfl, hw_0⟩ := hpo
    have h_mo : PR E b (modelW E b (updC mo 0 (updZ (mo 0) 0 1))) H2 := hw_0
    show V p l e (rmL 1 0 0) s m args below meth cd Q 1 H2 lo2 0 0 17 [(0, .ref b)] [.int (zI 0)]
    refine v_if_eq X (by omega) dX10_errorPosition_17 20 27 rfl (by decide) (fun c_3 => ?_) (fun c_3 => ?_)
    · skip
      refine v_iconst X dX10_errorPosition_27 28 rfl ?_
      subst hQ; exact m_iret X hr hlk hM dX10_errorPosition_28 rfl ⟨rfl, h_mo⟩
    · skip
      exfalso; omega
  · skip
    refine v_iconst X dX10_errorPosition_9 10 rfl ?_
    refine v_goto X dX10_errorPosition_10 14 (by decide) ?_
    refine v_muV X hM (h_mo.1) (c_X10_isFine_1 l E b mo) kvX10_isFine kiX10_isFine kl_X10_124 (q0 := 0) rfl rfl (As := [.int (zI 1)]) rfl rfl rfl dX10_errorPosition_14 17 rfl (k' := 0) (n' := 0) rfl rfl (fsI (fun q q1 q2 => (Or.inl (fsH (by omega) (by omega))))) h_mo (fun rv H4 lo4 hM hF hpo => ?_)
    obtain ⟨rfl, hw_0⟩ := hpo
    have h_mo : PR E b (modelW E b (updC mo 0 (updZ (mo 0) 0 0))) H4 := hw_0
    show V p l e (rmL 1 0 0) s m args below meth cd Q 1 H4 lo4 0 0 17 [(0, .ref b)] [.int (zI 1)]
    refine v_if_eq X (by omega) dX10_errorPosition_17 20 27 rfl (by decide) (fun c_5 => ?_) (fun c_5 => ?_)
    · skip
      exfalso; omega
    · skip
      refine v_aload_n X dX10_errorPosition_20 21 rfl 0 rfl ?_
      refine v_getf X hM.C h_mo.1 inX10 0 rfl rfl 11 (by decide) kf_X10_20 (fun _ h => h) rfl dX10_errorPosition_21 24 rfl ?_
      show V p l e (rmL 1 0 0) s m args below meth cd Q 1 H4 lo4 0 0 24 [(0, .ref b)] [.int (zI (mo 0 11))]
      refine v_goto X dX10_errorPosition_24 28 (by decide) ?_
      exfalso; omega
set_option maxHeartbeats 4000000 in
set_option maxRecDepth 20000 in
theorem c_X10_failedCommand (l : Launch) (E : Nat → Nat → Nat) (b : Nat) (mo : Nat → Int → Int) (fa : Int) (he : mo 0 12 = fa) (gfa : Rg fa) (p0 : ¬ fa = -1) : Mu l yX10_failedCommand cX10_failedCommand 1 (some .int) 1 0 0 E [(b, 5)] [.ref b] (fun H => PR E b (modelW E b mo) H) (fun rv H => rv = some (.int (zI fa)) ∧ PR E b (modelW E b (updC mo 0 (updZ (mo 0) 0 0))) H) := by
  refine Mu.start (own := RX10) rfl (by decide +kernel) (Nat.le_of_ble_eq_true rfl) ?_
  intro p e s m below meth cd args Q hQ X hr hlk hnm hM hPr
  have h_mo := hPr
  refine v_aload_n X dX10_failedCommand_0 1 rfl 0 rfl ?_
  refine v_aload_n X dX10_failedCommand_1 2 rfl 0 rfl ?_
  refine v_getf X hM.C h_mo.1 inX10 0 rfl rfl 12 (by decide) kf_X10_24 (fun _ h => h) rfl dX10_failedCommand_2 5 rfl ?_
  show V p l e (rmL 1 0 0) s m args below meth cd Q 1 s.heap [] 0 0 5 [(0, .ref b)] [.int (zI (mo 0 12)), .ref b]
  refine v_iconst X dX10_failedCommand_5 6 rfl ?_
  refine v_icmp_eq X (by omega) (by omega) dX10_failedCommand_6 9 13 rfl (by decide) (fun c_1 => ?_) (fun c_1 => ?_)
  · skip
    refine v_iconst X dX10_failedCommand_13 14 rfl ?_
    refine v_muV X hM (h_mo.1) (c_X10_isFine_0 l E b mo) kvX10_isFine kiX10_isFine kl_X10_124 (q0 := 0) rfl rfl (As := [.int (zI 0)]) rfl rfl rfl dX10_failedCommand_14 17 rfl (k' := 0) (n' := 0) rfl rfl (fsI (fun q q1 q2 => (Or.inl (fsH (by omega) (by omega))))) h_mo (fun rv H2 lo2 hM hF hpo => ?_)
    obtain ⟨rfl, hw_0⟩ := hpo
    have h_mo : PR E b (modelW E b (updC mo 0 (updZ (mo 0) 0 1))) H2 := hw_0
    show V p l e (rmL 1 0 0) s m args below meth cd Q 1 H2 lo2 0 0 17 [(0, .ref b)] [.int (zI 0)]
    refine v_if_eq X (by omega) dX10_failedCommand_17 20 27 rfl (by decide) (fun c_3 => ?_) (fun c_3 => ?_)
    · skip
      refine v_iconst X dX10_failedCommand_27 28 rfl ?_
      exfalso; omega
    · skip
      exfalso; omega
  · skip
    refine v_iconst X dX10_failedCommand_9 10 rfl ?_
    refine v_goto X dX10_failedCommand_10 14 (by decide) ?_
    refine v_muV X hM (h_mo.1) (c_X10_isFine_1 l E b mo) kvX10_isFine kiX10_isFine kl_X10_124 (q0 := 0) rfl rfl (As := [.int (zI 1)]) rfl rfl rfl dX10_failedCommand_14 17 rfl (k' := 0) (n' := 0) rfl rfl (fsI (fun q q1 q2 => (Or.inl (fsH (by omega) (by omega))))) h_mo (fun rv H4 lo4 hM hF hpo => ?_)
    obtain ⟨rfl, hw_0⟩ := hpo
    have h_mo : PR E b (modelW E b (updC mo 0 (updZ (mo 0) 0 0))) H4 := hw_0
    show V p l e (rmL 1 0 0) s m args below meth cd Q 1 H4 lo4 0 0 17 [(0, .ref b)] [.int (zI 1)]
    refine v_if_eq X (by omega) dX10_failedCommand_17 20 27 rfl (by decide) (fun c_5 => ?_) (fun c_5 => ?_)
    · skip
      exfalso; omega
    · skip
      refine v_aload_n X dX10_failedCommand_20 21 rfl 0 rfl ?_
      refine v_getf X hM.C h_mo.1 inX10 0 rfl rfl 12 (by decide) kf_X10_24 (fun _ h => h) rfl dX10_failedCommand_21 24 rfl ?_
      show V p l e (rmL 1 0 0) s m args below meth cd Q 1 H4 lo4 0 0 24 [(0, .ref b)] [.int (zI (mo 0 12))]
      refine v_goto X dX10_failedCommand_24 28 (by decide) ?_
      subst hQ; exact m_iret X hr hlk hM dX10_failedCommand_28 rfl ⟨(sv (by omega)), h_mo⟩
set_option maxHeartbeats 4000000 in
set_option maxRecDepth 20000 in
theorem c_X10_failedCommand_0 (l : Launch) (E : Nat → Nat → Nat) (b : Nat) (mo : Nat → Int → Int) (fa : Int) (he : mo 0 12 = fa) (gfa : Rg fa) (nk : ¬ (¬ fa = -1)) : Mu l yX10_failedCommand cX10_failedCommand 1 (some .int) 1 0 0 E [(b, 5)] [.ref b] (fun H => PR E b (modelW E b mo) H) (fun rv H => rv = some (.int (zI 0)) ∧ PR E b (modelW E b (updC mo 0 (updZ (mo 0) 0 1))) H) := by
  refine Mu.start (own := RX10) rfl (by decide +kernel) (Nat.le_of_ble_eq_true rfl) ?_
  intro p e s m below meth cd args Q hQ X hr hlk hnm hM hPr
  have h_mo := hPr
  refine v_aload_n X dX10_failedCommand_0 1 rfl 0 rfl ?_
  refine v_aload_n X dX10_failedCommand_1 2 rfl 0 rfl ?_
  refine v_getf X hM.C h_mo.1 inX10 0 rfl rfl 12 (by decide) kf_X10_24 (fun _ h => h) rfl dX10_failedCommand_2 5 rfl ?_
  show V p l e (rmL 1 0 0) s m args below meth cd Q 1 s.heap [] 0 0 5 [(0, .ref b)] [.int (zI (mo 0 12)), .ref b]
  refine v_iconst X dX10_failedCommand_5 6 rfl ?_
  refine v_icmp_eq X (by omega) (by omega) dX10_failedCommand_6 9 13 rfl (by decide) (fun c_1 => ?_) (fun c_1 => ?_)
  · skip
    refine v_iconst X dX10_failedCommand_13 14 rfl ?_
    refine v_muV X hM (h_mo.1) (c_X10_isFine_0 l E b mo) kvX10_isFine kiX10_isFine kl_X10_124 (q0 := 0) rfl rfl (As := [.int (zI 0)]) rfl rfl rfl dX10_failedCommand_14 17 rfl (k' := 0) (n' := 0) rfl rfl (fsI (fun q q1 q2 => (Or.inl (fsH (by omega) (by omega))))) h_mo (fun rv H2 lo2 hM hF hpo => ?_)
    obtain ⟨rfl, hw_0⟩ := hpo
    have h_mo : PR E b (modelW E b (updC mo 0 (updZ (mo 0) 0 1))) H2 := hw_0
    show V p l e (rmL 1 0 0) s m args below meth cd Q 1 H2 lo2 0 0 17 [(0, .ref b)] [.int (zI 0)]
    refine v_if_eq X (by omega) dX10_failedCommand_17 20 27 rfl (by decide) (fun c_3 => ?_) (fun c_3 => ?_)
    · skip
      refine v_iconst X dX10_failedCommand_27 28 rfl ?_
      subst hQ; exact m_iret X hr hlk hM dX10_failedCommand_28 rfl ⟨rfl, h_mo⟩
    · skip
      exfalso; omega
  · skip
    refine v_iconst X dX10_failedCommand_9 10 rfl ?_
    refine v_goto X dX10_failedCommand_10 14 (by decide) ?_
    refine v_muV X hM (h_mo.1) (c_X10_isFine_1 l E b mo) kvX10_isFine kiX10_isFine kl_X10_124 (q0 := 0) rfl rfl (As := [.int (zI 1)]) rfl rfl rfl dX10_failedCommand_14 17 rfl (k' := 0) (n' := 0) rfl rfl (fsI (fun q q1 q2 => (Or.inl (fsH (by omega) (by omega))))) h_mo (fun rv H4 lo4 hM hF hpo => ?_)
    obtain ⟨rfl, hw_0⟩ := hpo
    have h_mo : PR E b (modelW E b (updC mo 0 (updZ (mo 0) 0 0))) H4 := hw_0
    show V p l e (rmL 1 0 0) s m args below meth cd Q 1 H4 lo4 0 0 17 [(0, .ref b)] [.int (zI 1)]
    refine v_if_eq X (by omega) dX10_failedCommand_17 20 27 rfl (by decide) (fun c_5 => ?_) (fun c_5 => ?_)
    · skip
      exfalso; omega
    · skip
      refine v_aload_n X dX10_failedCommand_20 21 rfl 0 rfl ?_
      refine v_getf X hM.C h_mo.1 inX10 0 rfl rfl 12 (by decide) kf_X10_24 (fun _ h => h) rfl dX10_failedCommand_21 24 rfl ?_
      show V p l e (rmL 1 0 0) s m args below meth cd Q 1 H4 lo4 0 0 24 [(0, .ref b)] [.int (zI (mo 0 12))]
      refine v_goto X dX10_failedCommand_24 28 (by decide) ?_
      exfalso; omega
set_option maxHeartbeats 4000000 in
set_option maxRecDepth 20000 in
theorem c_X10_isFailureOfState (l : Launch) (E : Nat → Nat → Nat) (b : Nat) (mo : Nat → Int → Int) (fa : Int) (ss : Int) (he : mo 0 12 = fa) (gfa : Rg fa) (hs : ¬ fa = -1 → mo 0 13 = ss) (gss : ss = 0 ∨ ss = 1) (gms : mo 0 13 = 0 ∨ mo 0 13 = 1) (p0 : ¬ fa = -1) : Mu l yX10_isFailureOfState cX10_isFailureOfState 1 (some .boolean) 1 0 0 E [(b, 5)] [.ref b] (fun H => PR E b (modelW E b mo) H) (fun rv H => rv = some (.int (zI (bz (ss = 1)))) ∧ PR E b (modelW E b (updC mo 0 (updZ (mo 0) 0 0))) H) := by
  refine Mu.start (own := RX10) rfl (by decide +kernel) (Nat.le_of_ble_eq_true rfl) ?_
  intro p e s m below meth cd args Q hQ X hr hlk hnm hM hPr
  have h_mo := hPr
  refine v_aload_n X dX10_isFailureOfState_0 1 rfl 0 rfl ?_
  refine v_aload_n X dX10_isFailureOfState_1 2 rfl 0 rfl ?_
  refine v_getf X hM.C h_mo.1 inX10 0 rfl rfl 12 (by decide) kf_X10_24 (fun _ h => h) rfl dX10_isFailureOfState_2 5 rfl ?_
  show V p l e (rmL 1 0 0) s m args below meth cd Q 1 s.heap [] 0 0 5 [(0, .ref b)] [.int (zI (mo 0 12)), .ref b]
  refine v_iconst X dX10_isFailureOfState_5 6 rfl ?_
  refine v_icmp_eq X (by omega) (by omega) dX10_isFailureOfState_6 9 13 rfl (by decide) (fun c_1 => ?_) (fun c_1 => ?_)
  · skip
    refine v_iconst X dX10_isFailureOfState_13 14 rfl ?_
    refine v_muV X hM (h_mo.1) (c_X10_isFine_0 l E b mo) kvX10_isFine kiX10_isFine kl_X10_124 (q0 := 0) rfl rfl (As := [.int (zI 0)]) rfl rfl rfl dX10_isFailureOfState_14 17 rfl (k' := 0) (n' := 0) rfl rfl (fsI (fun q q1 q2 => (Or.inl (fsH (by omega) (by omega))))) h_mo (fun rv H2 lo2 hM hF hpo => ?_)
    obtain ⟨rfl, hw_0⟩ := hpo
    have h_mo : PR E b (modelW E b (updC mo 0 (updZ (mo 0) 0 1))) H2 := hw_0
    show V p l e (rmL 1 0 0) s m args below meth cd Q 1 H2 lo2 0 0 17 [(0, .ref b)] [.int (zI 0)]
    refine v_if_eq X (by omega) dX10_isFailureOfState_17 20 31 rfl (by decide) (fun c_3 => ?_) (fun c_3 => ?_)
    · skip
      refine v_iconst X dX10_isFailureOfState_31 32 rfl ?_
      exfalso; omega
    · skip
      exfalso; omega
  · skip
    refine v_iconst X dX10_isFailureOfState_9 10 rfl ?_
    refine v_goto X dX10_isFailureOfState_10 14 (by decide) ?_
    refine v_muV X hM (h_mo.1) (c_X10_isFine_1 l E b mo) kvX10_isFine kiX10_isFine kl_X10_124 (q0 := 0) rfl rfl (As := [.int (zI 1)]) rfl rfl rfl dX10_isFailureOfState_14 17 rfl (k' := 0) (n' := 0) rfl rfl (fsI (fun q q1 q2 => (Or.inl (fsH (by omega) (by omega))))) h_mo (fun rv H4 lo4 hM hF hpo => ?_)
    obtain ⟨rfl, hw_0⟩ := hpo
    have h_mo : PR E b (modelW E b (updC mo 0 (updZ (mo 0) 0 0))) H4 := hw_0
    show V p l e (rmL 1 0 0) s m args below meth cd Q 1 H4 lo4 0 0 17 [(0, .ref b)] [.int (zI 1)]
    refine v_if_eq X (by omega) dX10_isFailureOfState_17 20 31 rfl (by decide) (fun c_5 => ?_) (fun c_5 => ?_)
    · skip
      exfalso; omega
    · skip
      refine v_aload_n X dX10_isFailureOfState_20 21 rfl 0 rfl ?_
      refine v_getf X hM.C h_mo.1 inX10 0 rfl rfl 13 (by decide) kf_X10_209 (fun _ h => h) rfl dX10_isFailureOfState_21 24 rfl ?_
      show V p l e (rmL 1 0 0) s m args below meth cd Q 1 H4 lo4 0 0 24 [(0, .ref b)] [.int (zI (mo 0 13))]
      refine v_if_eq X (by omega) dX10_isFailureOfState_24 27 31 rfl (by decide) (fun c_6 => ?_) (fun c_6 => ?_)
      · skip
        refine v_iconst X dX10_isFailureOfState_31 32 rfl ?_
        subst hQ; exact m_zret X hr hlk hM dX10_isFailureOfState_32 rfl (by omega) ⟨(sv (bz_f (by omega))), h_mo⟩
      · skip
        refine v_iconst X dX10_isFailureOfState_27 28 rfl ?_
        refine v_goto X dX10_isFailureOfState_28 32 (by decide) ?_
        subst hQ; exact m_zret X hr hlk hM dX10_isFailureOfState_32 rfl (by omega) ⟨(sv (bz_t (by omega))), h_mo⟩
set_option maxHeartbeats 4000000 in
set_option maxRecDepth 20000 in
theorem c_X10_isFailureOfState_0 (l : Launch) (E : Nat → Nat → Nat) (b : Nat) (mo : Nat → Int → Int) (fa : Int) (ss : Int) (he : mo 0 12 = fa) (gfa : Rg fa) (hs : ¬ fa = -1 → mo 0 13 = ss) (gss : ss = 0 ∨ ss = 1) (gms : mo 0 13 = 0 ∨ mo 0 13 = 1) (nk : ¬ (¬ fa = -1)) : Mu l yX10_isFailureOfState cX10_isFailureOfState 1 (some .boolean) 1 0 0 E [(b, 5)] [.ref b] (fun H => PR E b (modelW E b mo) H) (fun rv H => rv = some (.int (zI 0)) ∧ PR E b (modelW E b (updC mo 0 (updZ (mo 0) 0 1))) H) := by
  refine Mu.start (own := RX10) rfl (by decide +kernel) (Nat.le_of_ble_eq_true rfl) ?_
  intro p e s m below meth cd args Q hQ X hr hlk hnm hM hPr
  have h_mo := hPr
  refine v_aload_n X dX10_isFailureOfState_0 1 rfl 0 rfl ?_
  refine v_aload_n X dX10_isFailureOfState_1 2 rfl 0 rfl ?_
  refine v_getf X hM.C h_mo.1 inX10 0 rfl rfl 12 (by decide) kf_X10_24 (fun _ h => h) rfl dX10_isFailureOfState_2 5 rfl ?_
  show V p l e (rmL 1 0 0) s m args below meth cd Q 1 s.heap [] 0 0 5 [(0, .ref b)] [.int (zI (mo 0 12)), .ref b]
  refine v_iconst X dX10_isFailureOfState_5 6 rfl ?_
  refine v_icmp_eq X (by omega) (by omega) dX10_isFailureOfState_6 9 13 rfl (by decide) (fun c_1 => ?_) (fun c_1 => ?_)
  · skip
    refine v_iconst X dX10_isFailureOfState_13 14 rfl ?_
    refine v_muV X hM (h_mo.1) (c_X10_isFine_0 l E b mo) kvX10_isFine kiX10_isFine kl_X10_124 (q0 := 0) rfl rfl (As := [.int (zI 0)]) rfl rfl rfl dX10_isFailureOfState_14 17 rfl (k' := 0) (n' := 0) rfl rfl (fsI (fun q q1 q2 => (Or.inl (fsH (by omega) (by omega))))) h_mo (fun rv H2 lo2 hM hF hpo => ?_)
    obtain ⟨rfl, hw_0⟩ := hpo
    have h_mo : PR E b (modelW E b (updC mo 0 (updZ (mo 0) 0 1))) H2 := hw_0
    show V p l e (rmL 1 0 0) s m args below meth cd Q 1 H2 lo2 0 0 17 [(0, .ref b)] [.int (zI 0)]
    refine v_if_eq X (by omega) dX10_isFailureOfState_17 20 31 rfl (by decide) (fun c_3 => ?_) (fun c_3 => ?_)
    · skip
      refine v_iconst X dX10_isFailureOfState_31 32 rfl ?_
      subst hQ; exact m_zret X hr hlk hM dX10_isFailureOfState_32 rfl (by omega) ⟨rfl, h_mo⟩
    · skip
      exfalso; omega
  · skip
    refine v_iconst X dX10_isFailureOfState_9 10 rfl ?_
    refine v_goto X dX10_isFailureOfState_10 14 (by decide) ?_
    refine v_muV X hM (h_mo.1) (c_X10_isFine_1 l E b mo) kvX10_isFine kiX10_isFine kl_X10_124 (q0 := 0) rfl rfl (As := [.int (zI 1)]) rfl rfl rfl dX10_isFailureOfState_14 17 rfl (k' := 0) (n' := 0) rfl rfl (fsI (fun q q1 q2 => (Or.inl (fsH (by omega) (by omega))))) h_mo (fun rv H4 lo4 hM hF hpo => ?_)
    obtain ⟨rfl, hw_0⟩ := hpo
    have h_mo : PR E b (modelW E b (updC mo 0 (updZ (mo 0) 0 0))) H4 := hw_0
    show V p l e (rmL 1 0 0) s m args below meth cd Q 1 H4 lo4 0 0 17 [(0, .ref b)] [.int (zI 1)]
    refine v_if_eq X (by omega) dX10_isFailureOfState_17 20 31 rfl (by decide) (fun c_5 => ?_) (fun c_5 => ?_)
    · skip
      exfalso; omega
    · skip
      refine v_aload_n X dX10_isFailureOfState_20 21 rfl 0 rfl ?_
      refine v_getf X hM.C h_mo.1 inX10 0 rfl rfl 13 (by decide) kf_X10_209 (fun _ h => h) rfl dX10_isFailureOfState_21 24 rfl ?_
      show V p l e (rmL 1 0 0) s m args below meth cd Q 1 H4 lo4 0 0 24 [(0, .ref b)] [.int (zI (mo 0 13))]
      refine v_if_eq X (by omega) dX10_isFailureOfState_24 27 31 rfl (by decide) (fun c_6 => ?_) (fun c_6 => ?_)
      · skip
        refine v_iconst X dX10_isFailureOfState_31 32 rfl ?_
        exfalso; omega
      · skip
        refine v_iconst X dX10_isFailureOfState_27 28 rfl ?_
        refine v_goto X dX10_isFailureOfState_28 32 (by decide) ?_
        exfalso; omega
set_option maxHeartbeats 4000000 in
set_option maxRecDepth 20000 in
theorem c_X10_undoableCount (l : Launch) (E : Nat → Nat → Nat) (b : Nat) (mo : Nat → Int → Int) : Mu l yX10_undoableCount cX10_undoableCount 1 (some .int) 0 0 0 E [(b, 5)] [.ref b] (fun H => PR E b (modelW E b mo) H) (fun rv H => rv = some (.int (zI (mo 0 2))) ∧ PR E b (modelW E b (updC mo 0 (updZ (mo 0) 0 0))) H) := by
  refine Mu.start (own := RX10) rfl (by decide +kernel) (Nat.le_of_ble_eq_true rfl) ?_
  intro p e s m below meth cd args Q hQ X hr hlk hnm hM hPr
  have h_mo := hPr
  refine v_aload_n X dX10_undoableCount_0 1 rfl 0 rfl ?_
  refine v_iconst X dX10_undoableCount_1 2 rfl ?_
  refine v_putf X hM h_mo ftX10 0 rfl rfl 0 (by decide) kf_X10_30 (fun _ h => h) rfl rfl rfl (Nat.le_of_ble_eq_true rfl) (Or.inl (fsH (by omega) (by omega))) dX10_undoableCount_2 5 rfl (ws' := modelW E b (updC mo 0 (updZ (mo 0) 0 0))) rfl (fun H1 lo1 hzz hM hF h_mo => ?_)
  clear hzz
  refine v_aload_n X dX10_undoableCount_5 6 rfl 0 rfl ?_
  refine v_getf X hM.C h_mo.1 inX10 0 rfl rfl 2 (by decide) kf_X10_37 (fun _ h => h) rfl dX10_undoableCount_6 9 rfl ?_
  show V p l e (rmL 0 0 0) s m args below meth cd Q 1 H1 lo1 0 0 9 [(0, .ref b)] [.int (zI (mo 0 2))]
  subst hQ; exact m_iret X hr hlk hM dX10_undoableCount_9 rfl ⟨rfl, h_mo⟩
