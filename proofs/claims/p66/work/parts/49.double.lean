/-! doubles, floats: shares of small numbers are no NaN -/
abbrev dvD (a b : Int) : UInt64 := FP.ddiv (FP.i2d (zI a)) (FP.i2d (zI b))
abbrev fvD (a b : Int) : UInt32 := FP.fdiv (FP.i2f (zI a)) (FP.i2f (zI b))
set_option maxRecDepth 100000 in
theorem dvD_k : ∀ a : Fin 73, ∀ b : Fin 9, ((b : Nat) = 0 ∨ (dvD ((a : Nat) : Int) ((b : Nat) : Int)) &&& 0x7fffffffffffffff ≤ 0x7ff0000000000000) ∧ ((b : Nat) = 0 ∨ FP.dcmp (dvD ((a : Nat) : Int) ((b : Nat) : Int)) (dvD ((a : Nat) : Int) ((b : Nat) : Int)) = some .eq) := by decide +kernel
set_option maxRecDepth 100000 in
theorem fvD_k : ∀ a : Fin 17, ∀ b : Fin 33, ((b : Nat) = 0 ∨ (fvD ((a : Nat) : Int) ((b : Nat) : Int)) &&& 0x7fffffff ≤ 0x7f800000) ∧ ((b : Nat) = 0 ∨ FP.f2d (fvD ((a : Nat) : Int) ((b : Nat) : Int)) &&& 0x7fffffffffffffff ≤ 0x7ff0000000000000) ∧ ((b : Nat) = 0 ∨ FP.dcmp (FP.f2d (fvD ((a : Nat) : Int) ((b : Nat) : Int))) (FP.f2d (fvD ((a : Nat) : Int) ((b : Nat) : Int))) = some .eq) := by decide +kernel
theorem dvD_ok {a b : Int} (a0 : 0 ≤ a) (a1 : a ≤ 72) (b0 : 1 ≤ b) (b1 : b ≤ 8) : vf_n64 (dvD a b) ∧ FP.dcmp (dvD a b) (dvD a b) = some .eq := by
  have h := dvD_k ⟨a.toNat, by omega⟩ ⟨b.toNat, by omega⟩
  dsimp only at h
  rw [Int.toNat_of_nonneg a0, Int.toNat_of_nonneg (by omega)] at h
  exact ⟨h.1.elim (fun q => by omega) id, h.2.elim (fun q => by omega) id⟩
theorem fvD_ok {a b : Int} (a0 : 0 ≤ a) (a1 : a ≤ 16) (b0 : 1 ≤ b) (b1 : b ≤ 32) : vf_n32 (fvD a b) ∧ vf_n64 (FP.f2d (fvD a b)) ∧ FP.dcmp (FP.f2d (fvD a b)) (FP.f2d (fvD a b)) = some .eq := by
  have h := fvD_k ⟨a.toNat, by omega⟩ ⟨b.toNat, by omega⟩
  dsimp only at h
  rw [Int.toNat_of_nonneg a0, Int.toNat_of_nonneg (by omega)] at h
  exact ⟨h.1.elim (fun q => by omega) id, h.2.1.elim (fun q => by omega) id, h.2.2.elim (fun q => by omega) id⟩
section DBL
variable {p : Program} {l : Launch} {e : Env} {R : Room} {s : State} {m : MethodId} {args : Array Value} {below : List Frame} {meth : Method} {c : Code} {Q : State → Prop} {nL : Nat} {H : Heap} {locs : List Loc} {k n : Nat} {pc : Nat} {L L' : List (Nat × Value)} {st : List Value} {cc : ByteArray} {own : String} {E : Nat → Nat → Nat}
theorem v_i2d {x : Int} (X : CF p m c cc nL s args own) (hdg : decode cc pc = .ok (.i2d, 1)) (pc' : Nat) (hp : pc + 1 = pc') (kk : V p l e R s m args below meth c Q nL H locs k n pc' L (.double (FP.i2d (zI x)) :: st)) : V p l e R s m args below meth c Q nL H locs k n pc L (.int (zI x) :: st) := by
  subst hp
  exact fun ls hl => lv_i2d X.1 X.2.1 hdg (kk ls hl)
theorem v_i2f {x : Int} (X : CF p m c cc nL s args own) (hdg : decode cc pc = .ok (.i2f, 1)) (pc' : Nat) (hp : pc + 1 = pc') (kk : V p l e R s m args below meth c Q nL H locs k n pc' L (.float (FP.i2f (zI x)) :: st)) : V p l e R s m args below meth c Q nL H locs k n pc L (.int (zI x) :: st) := by
  subst hp
  exact fun ls hl => lv_i2f X.1 X.2.1 hdg (kk ls hl)
theorem v_ddiv {x y : UInt64} (X : CF p m c cc nL s args own) (hne : vf_n64 (FP.ddiv x y)) (hdg : decode cc pc = .ok (.ddiv, 1)) (pc' : Nat) (hp : pc + 1 = pc') (kk : V p l e R s m args below meth c Q nL H locs k n pc' L (.double (FP.ddiv x y) :: st)) : V p l e R s m args below meth c Q nL H locs k n pc L (.double y :: .double x :: st) := by
  subst hp
  exact fun ls hl => lv_ddiv X.1 X.2.1 hdg hne (kk ls hl)
theorem v_fdiv {x y : UInt32} (X : CF p m c cc nL s args own) (hne : vf_n32 (FP.fdiv x y)) (hdg : decode cc pc = .ok (.fdiv, 1)) (pc' : Nat) (hp : pc + 1 = pc') (kk : V p l e R s m args below meth c Q nL H locs k n pc' L (.float (FP.fdiv x y) :: st)) : V p l e R s m args below meth c Q nL H locs k n pc L (.float y :: .float x :: st) := by
  subst hp
  exact fun ls hl => lv_fdiv X.1 X.2.1 hdg hne (kk ls hl)
theorem v_f2d {x : UInt32} (X : CF p m c cc nL s args own) (hne : vf_n64 (FP.f2d x)) (hdg : decode cc pc = .ok (.f2d, 1)) (pc' : Nat) (hp : pc + 1 = pc') (kk : V p l e R s m args below meth c Q nL H locs k n pc' L (.double (FP.f2d x) :: st)) : V p l e R s m args below meth c Q nL H locs k n pc L (.float x :: st) := by
  subst hp
  exact fun ls hl => lv_f2d X.1 X.2.1 hdg hne (kk ls hl)
theorem v_dret0 {v : UInt64} (X : CF p m c cc nL s args own) (hr : meth.sig.returnType = some .double) (hlk : meth.locks = false) (hdg : decode cc pc = .ok (.dreturn, 1)) : V p l e R s m args below meth c (MQ below (Q0 (some (.double v))) args s k n (fun _ => False)) nL s.heap [] k n pc L [.double v] :=
  fun ls hl => W.dret X.1 X.2.1 hr (fun t ht hW => ⟨rfl, ht⟩) (fun _ h => by cases h) hdg hlk
theorem v_fret0 {v : UInt32} (X : CF p m c cc nL s args own) (hr : meth.sig.returnType = some .float) (hlk : meth.locks = false) (hdg : decode cc pc = .ok (.freturn, 1)) : V p l e R s m args below meth c (MQ below (Q0 (some (.float v))) args s k n (fun _ => False)) nL s.heap [] k n pc L [.float v] :=
  fun ls hl => W.fret X.1 X.2.1 hr (fun t ht hW => ⟨rfl, ht⟩) (fun _ h => by cases h) hdg hlk
theorem v_dcmp0 {x : UInt64} {op : CmpOp} (X : CF p m c cc nL s args own) (hx : FP.dcmp x x = some .eq) (hdg : decode cc pc = .ok (.dcmp op, 1)) (pc' : Nat) (hp : pc + 1 = pc') (kk : V p l e R s m args below meth c Q nL H locs k n pc' L (.int (zI 0) :: st)) : V p l e R s m args below meth c Q nL H locs k n pc L (.double x :: .double x :: st) := by
  subst hp
  exact fun ls hl => lv_dcmp X.1 X.2.1 hdg (by rw [hx]; exact kk ls hl)
end DBL
set_option maxHeartbeats 4000000 in
set_option maxRecDepth 20000 in
theorem c_X9_meanCredibility (l : Launch) (E : Nat → Nat → Nat) (x : Nat) (co : Nat → Int → Int) (hs : Int) (er : Int) (fa : Int) (ss : Int) (hO : OkC co) (k0 : ¬ co 0 1 = 0) : Rd l yX9_meanCredibility cX9_meanCredibility 1 (some .double) 2 E [.ref x] ([(x, .inr (11, [.ref (x + 1), .ref (x + 29), .ref (x + 57), .ref (x + 85), .ref (x + 311), .ref (x + 314), .ref (x + 319), .ref (x + 332), .int (zI hs), .int (zI er), .int (zI fa), .int (zI ss)]))] ++ courtW E (x + 1) co) (some (.double (dvD (sumZ (fun j => co 11 j) (co 0 1).toNat) (co 0 1)))) := by
  refine Rd.start (own := RX9) rfl (by decide +kernel) (Nat.le_of_ble_eq_true rfl) ?_
  intro p e s m below meth cd args Q hQ X hr hlk hC hP
  have h_co := PW.right hP
  have h_cm := (PW.left hP)
  have hb0 := hO.b0
  have hbw := hO.bw
  have hcs := sumZ_b (f := fun j => co 11 j) (lo := 0) (hi := 9) (n := (co 0 1).toNat) (fun j _ _ => hO.b11 j)
  refine v_aload_n X dX9_meanCredibility_0 1 rfl 0 rfl ?_
  refine v_getf X hC h_cm inX9 0 rfl rfl 0 (by decide) kf_X9_10 (fun _ h => h) rfl dX9_meanCredibility_1 4 rfl ?_
  refine v_getfN X hC h_co inX0 0 rfl rfl 1 (by decide) kfn_X9_160 (fun _ h => h) rfl dX9_meanCredibility_4 7 rfl ?_
  show V p l e (rmL 2 0 0) s m args below meth cd Q 1 s.heap [] 0 0 7 [(0, .ref x)] [.int (zI (co 0 1))]
  have hb_2 := hO.bw
  refine v_if_ne X (by omega) dX9_meanCredibility_7 10 21 rfl (by decide) (fun c_1 => ?_) (fun c_1 => ?_)
  · skip
    refine v_aload_n X dX9_meanCredibility_21 22 rfl 0 rfl ?_
    refine v_getf X hC h_cm inX9 0 rfl rfl 0 (by decide) kf_X9_10 (fun _ h => h) rfl dX9_meanCredibility_22 25 rfl ?_
    refine v_rdV X hC h_co (c_X0_credibilitySum l E (x + 1) co hO) kvX0_credibilitySum kiX0_credibilitySum kl_X9_272 rfl rfl (As := []) rfl rfl rfl dX9_meanCredibility_25 28 rfl ?_
    show V p l e (rmL 2 0 0) s m args below meth cd Q 1 s.heap [] 0 0 28 [(0, .ref x)] [.int (zI (sumZ (fun j => co 11 j) (co 0 1).toNat))]
    refine v_i2d X dX9_meanCredibility_28 29 rfl ?_
    refine v_aload_n X dX9_meanCredibility_29 30 rfl 0 rfl ?_
    refine v_getf X hC h_cm inX9 0 rfl rfl 0 (by decide) kf_X9_10 (fun _ h => h) rfl dX9_meanCredibility_30 33 rfl ?_
    refine v_getfN X hC h_co inX0 0 rfl rfl 1 (by decide) kfn_X9_160 (fun _ h => h) rfl dX9_meanCredibility_33 36 rfl ?_
    show V p l e (rmL 2 0 0) s m args below meth cd Q 1 s.heap [] 0 0 36 [(0, .ref x)] [.int (zI (co 0 1)), .double (FP.i2d (zI (sumZ (fun j => co 11 j) (co 0 1).toNat)))]
    refine v_i2d X dX9_meanCredibility_36 37 rfl ?_
    refine v_ddiv X ((dvD_ok (by omega) (by omega) (by omega) (by omega)).1) dX9_meanCredibility_37 38 rfl ?_
    subst hQ; exact v_dret0 X hr hlk dX9_meanCredibility_38
  · skip
    exfalso; omega
set_option maxHeartbeats 4000000 in
set_option maxRecDepth 20000 in
theorem x_X9_meanCredibility_0 (l : Launch) (hl : l.stackTraces = false) (E : Nat → Nat → Nat) (x : Nat) (co : Nat → Int → Int) (hs : Int) (er : Int) (fa : Int) (ss : Int) (hO : OkC co) (nk : ¬ (¬ co 0 1 = 0)) : Tx l yX9_meanCredibility cX9_meanCredibility 1 (some .double) 6 1 6 E [] [.ref x] (fun H => PR E x [(x, .inr (11, [.ref (x + 1), .ref (x + 29), .ref (x + 57), .ref (x + 85), .ref (x + 311), .ref (x + 314), .ref (x + 319), .ref (x + 332), .int (zI hs), .int (zI er), .int (zI fa), .int (zI ss)]))] H ∧ PR E (x + 1) (courtW E (x + 1) co) H) "java/lang/ArithmeticException" (fun H => True) := by
  refine Tx.start (own := RX9) rfl (by decide +kernel) (Nat.le_of_ble_eq_true rfl) ?_
  intro p e s m below meth cd args Q hQ X tb hlk hM hPr
  obtain ⟨h_cm, h_co⟩ := hPr
  have hb0 := hO.b0
  have hbw := hO.bw
  have hcs := sumZ_b (f := fun j => co 11 j) (lo := 0) (hi := 9) (n := (co 0 1).toNat) (fun j _ _ => hO.b11 j)
  refine v_aload_n X dX9_meanCredibility_0 1 rfl 0 rfl ?_
  refine v_getf X hM.C h_cm.1 inX9 0 rfl rfl 0 (by decide) kf_X9_10 (fun _ h => h) rfl dX9_meanCredibility_1 4 rfl ?_
  refine v_getfN X hM.C h_co.1 inX0 0 rfl rfl 1 (by decide) kfn_X9_160 (fun _ h => h) rfl dX9_meanCredibility_4 7 rfl ?_
  show V p l e (rmL 6 1 6) s m args below meth cd Q 1 s.heap [] 0 0 7 [(0, .ref x)] [.int (zI (co 0 1))]
  have hb_2 := hO.bw
  refine v_if_ne X (by omega) dX9_meanCredibility_7 10 21 rfl (by decide) (fun c_1 => ?_) (fun c_1 => ?_)
  · skip
    refine v_aload_n X dX9_meanCredibility_21 22 rfl 0 rfl ?_
    refine v_getf X hM.C h_cm.1 inX9 0 rfl rfl 0 (by decide) kf_X9_10 (fun _ h => h) rfl dX9_meanCredibility_22 25 rfl ?_
    refine v_rdV X hM.C h_co.1 (c_X0_credibilitySum l E (x + 1) co hO) kvX0_credibilitySum kiX0_credibilitySum kl_X9_272 rfl rfl (As := []) rfl rfl rfl dX9_meanCredibility_25 28 rfl ?_
    show V p l e (rmL 6 1 6) s m args below meth cd Q 1 s.heap [] 0 0 28 [(0, .ref x)] [.int (zI (sumZ (fun j => co 11 j) (co 0 1).toNat))]
    refine v_i2d X dX9_meanCredibility_28 29 rfl ?_
    refine v_aload_n X dX9_meanCredibility_29 30 rfl 0 rfl ?_
    refine v_getf X hM.C h_cm.1 inX9 0 rfl rfl 0 (by decide) kf_X9_10 (fun _ h => h) rfl dX9_meanCredibility_30 33 rfl ?_
    refine v_getfN X hM.C h_co.1 inX0 0 rfl rfl 1 (by decide) kfn_X9_160 (fun _ h => h) rfl dX9_meanCredibility_33 36 rfl ?_
    show V p l e (rmL 6 1 6) s m args below meth cd Q 1 s.heap [] 0 0 36 [(0, .ref x)] [.int (zI (co 0 1)), .double (FP.i2d (zI (sumZ (fun j => co 11 j) (co 0 1).toNat)))]
    refine v_i2d X dX9_meanCredibility_36 37 rfl ?_
    refine v_ddiv X ((dvD_ok (by omega) (by omega) (by omega) (by omega)).1) dX9_meanCredibility_37 38 rfl ?_
    exfalso; omega
  · skip
    subst hQ; exact v_throwW X hl tb hlk hM xt_ARI xk_ARI 24 rfl dX9_meanCredibility_10 dX9_meanCredibility_13 dX9_meanCredibility_14 dX9_meanCredibility_17 dX9_meanCredibility_20 rfl (fun H1 hF => trivial)
set_option maxHeartbeats 4000000 in
set_option maxRecDepth 20000 in
theorem c_X9_guiltyShare (l : Launch) (E : Nat → Nat → Nat) (x : Nat) (co : Nat → Int → Int) (hs : Int) (er : Int) (fa : Int) (ss : Int) (hO : OkC co) (k0 : ¬ sumZ (fun j => bz (co 3 j = 1)) (co 0 0).toNat + sumZ (fun j => bz (co 3 j = 2)) (co 0 0).toNat = 0) : Rd l yX9_guiltyShare cX9_guiltyShare 2 (some .float) 3 E [.ref x] ([(x, .inr (11, [.ref (x + 1), .ref (x + 29), .ref (x + 57), .ref (x + 85), .ref (x + 311), .ref (x + 314), .ref (x + 319), .ref (x + 332), .int (zI hs), .int (zI er), .int (zI fa), .int (zI ss)]))] ++ courtW E (x + 1) co) (some (.float (fvD (sumZ (fun j => bz (¬ co 4 j = 0)) (co 0 0).toNat) (sumZ (fun j => bz (co 3 j = 1)) (co 0 0).toNat + sumZ (fun j => bz (co 3 j = 2)) (co 0 0).toNat)))) := by
  refine Rd.start (own := RX9) rfl (by decide +kernel) (Nat.le_of_ble_eq_true rfl) ?_
  intro p e s m below meth cd args Q hQ X hr hlk hC hP
  have h_co := PW.right hP
  have h_cm := (PW.left hP)
  have hb0 := hO.b0
  have hbw := hO.bw
  have hg1 := cnt_b (fun j => co 3 j = 1) (co 0 0).toNat
  have hg2 := cnt_b (fun j => co 3 j = 2) (co 0 0).toNat
  have hg3 := cnt_b (fun j => ¬ co 4 j = 0) (co 0 0).toNat
  refine v_aload_n X dX9_guiltyShare_0 1 rfl 0 rfl ?_
  refine v_getf X hC h_cm inX9 0 rfl rfl 0 (by decide) kf_X9_10 (fun _ h => h) rfl dX9_guiltyShare_1 4 rfl ?_
  refine v_iconst X dX9_guiltyShare_4 5 rfl ?_
  refine v_rdV X hC h_co (c_X0_countIn l E (x + 1) co 1 hO (by omega)) kvX0_countIn kiX0_countIn kl_X9_241 rfl rfl (As := [.int (zI 1)]) rfl rfl rfl dX9_guiltyShare_5 8 rfl ?_
  show V p l e (rmL 3 0 0) s m args below meth cd Q 2 s.heap [] 0 0 8 [(0, .ref x)] [.int (zI (sumZ (fun j => bz (co 3 j = 1)) (co 0 0).toNat))]
  have hb_1 := hO.b0
  have hf_2 := cnt_b (fun j => co 3 j = 1) (co 0 0).toNat
  refine v_aload_n X dX9_guiltyShare_8 9 rfl 0 rfl ?_
  refine v_getf X hC h_cm inX9 0 rfl rfl 0 (by decide) kf_X9_10 (fun _ h => h) rfl dX9_guiltyShare_9 12 rfl ?_
  refine v_iconst X dX9_guiltyShare_12 13 rfl ?_
  refine v_rdV X hC h_co (c_X0_countIn l E (x + 1) co 2 hO (by omega)) kvX0_countIn kiX0_countIn kl_X9_241 rfl rfl (As := [.int (zI 2)]) rfl rfl rfl dX9_guiltyShare_13 16 rfl ?_
  show V p l e (rmL 3 0 0) s m args below meth cd Q 2 s.heap [] 0 0 16 [(0, .ref x)] [.int (zI (sumZ (fun j => bz (co 3 j = 2)) (co 0 0).toNat)), .int (zI (sumZ (fun j => bz (co 3 j = 1)) (co 0 0).toNat))]
  have hf_3 := cnt_b (fun j => co 3 j = 2) (co 0 0).toNat
  refine v_iadd X dX9_guiltyShare_16 17 rfl ?_
  refine v_istore_n X dX9_guiltyShare_17 18 rfl rfl (by decide) (L' := [(1, .int (zI (sumZ (fun j => bz (co 3 j = 1)) (co 0 0).toNat + sumZ (fun j => bz (co 3 j = 2)) (co 0 0).toNat))), (0, .ref x)]) rfl ?_
  refine v_iload_n X dX9_guiltyShare_18 19 rfl 0 rfl ?_
  refine v_if_ne X (by omega) dX9_guiltyShare_19 22 33 rfl (by decide) (fun c_4 => ?_) (fun c_4 => ?_)
  · skip
    refine v_aload_n X dX9_guiltyShare_33 34 rfl 1 rfl ?_
    refine v_getf X hC h_cm inX9 0 rfl rfl 0 (by decide) kf_X9_10 (fun _ h => h) rfl dX9_guiltyShare_34 37 rfl ?_
    refine v_rdV X hC h_co (c_X0_countGuilty l E (x + 1) co hO) kvX0_countGuilty kiX0_countGuilty kl_X9_257 rfl rfl (As := []) rfl rfl rfl dX9_guiltyShare_37 40 rfl ?_
    show V p l e (rmL 3 0 0) s m args below meth cd Q 2 s.heap [] 0 0 40 [(1, .int (zI (sumZ (fun j => bz (co 3 j = 1)) (co 0 0).toNat + sumZ (fun j => bz (co 3 j = 2)) (co 0 0).toNat))), (0, .ref x)] [.int (zI (sumZ (fun j => bz (¬ co 4 j = 0)) (co 0 0).toNat))]
    have hf_5 := cnt_b (fun j => ¬ co 4 j = 0) (co 0 0).toNat
    refine v_i2f X dX9_guiltyShare_40 41 rfl ?_
    refine v_iload_n X dX9_guiltyShare_41 42 rfl 0 rfl ?_
    refine v_i2f X dX9_guiltyShare_42 43 rfl ?_
    refine v_fdiv X ((fvD_ok (by omega) (by omega) (by omega) (by omega)).1) dX9_guiltyShare_43 44 rfl ?_
    subst hQ; exact v_fret0 X hr hlk dX9_guiltyShare_44
  · skip
    exfalso; omega
set_option maxHeartbeats 4000000 in
set_option maxRecDepth 20000 in
theorem x_X9_guiltyShare_0 (l : Launch) (hl : l.stackTraces = false) (E : Nat → Nat → Nat) (x : Nat) (co : Nat → Int → Int) (hs : Int) (er : Int) (fa : Int) (ss : Int) (hO : OkC co) (nk : ¬ (¬ sumZ (fun j => bz (co 3 j = 1)) (co 0 0).toNat + sumZ (fun j => bz (co 3 j = 2)) (co 0 0).toNat = 0)) : Tx l yX9_guiltyShare cX9_guiltyShare 2 (some .float) 6 1 6 E [] [.ref x] (fun H => PR E x [(x, .inr (11, [.ref (x + 1), .ref (x + 29), .ref (x + 57), .ref (x + 85), .ref (x + 311), .ref (x + 314), .ref (x + 319), .ref (x + 332), .int (zI hs), .int (zI er), .int (zI fa), .int (zI ss)]))] H ∧ PR E (x + 1) (courtW E (x + 1) co) H) "java/lang/ArithmeticException" (fun H => True) := by
  refine Tx.start (own := RX9) rfl (by decide +kernel) (Nat.le_of_ble_eq_true rfl) ?_
  intro p e s m below meth cd args Q hQ X tb hlk hM hPr
  obtain ⟨h_cm, h_co⟩ := hPr
  have hb0 := hO.b0
  have hbw := hO.bw
  have hg1 := cnt_b (fun j => co 3 j = 1) (co 0 0).toNat
  have hg2 := cnt_b (fun j => co 3 j = 2) (co 0 0).toNat
  have hg3 := cnt_b (fun j => ¬ co 4 j = 0) (co 0 0).toNat
  refine v_aload_n X dX9_guiltyShare_0 1 rfl 0 rfl ?_
  refine v_getf X hM.C h_cm.1 inX9 0 rfl rfl 0 (by decide) kf_X9_10 (fun _ h => h) rfl dX9_guiltyShare_1 4 rfl ?_
  refine v_iconst X dX9_guiltyShare_4 5 rfl ?_
  refine v_rdV X hM.C h_co.1 (c_X0_countIn l E (x + 1) co 1 hO (by omega)) kvX0_countIn kiX0_countIn kl_X9_241 rfl rfl (As := [.int (zI 1)]) rfl rfl rfl dX9_guiltyShare_5 8 rfl ?_
  show V p l e (rmL 6 1 6) s m args below meth cd Q 2 s.heap [] 0 0 8 [(0, .ref x)] [.int (zI (sumZ (fun j => bz (co 3 j = 1)) (co 0 0).toNat))]
  have hb_1 := hO.b0
  have hf_2 := cnt_b (fun j => co 3 j = 1) (co 0 0).toNat
  refine v_aload_n X dX9_guiltyShare_8 9 rfl 0 rfl ?_
  refine v_getf X hM.C h_cm.1 inX9 0 rfl rfl 0 (by decide) kf_X9_10 (fun _ h => h) rfl dX9_guiltyShare_9 12 rfl ?_
  refine v_iconst X dX9_guiltyShare_12 13 rfl ?_
  refine v_rdV X hM.C h_co.1 (c_X0_countIn l E (x + 1) co 2 hO (by omega)) kvX0_countIn kiX0_countIn kl_X9_241 rfl rfl (As := [.int (zI 2)]) rfl rfl rfl dX9_guiltyShare_13 16 rfl ?_
  show V p l e (rmL 6 1 6) s m args below meth cd Q 2 s.heap [] 0 0 16 [(0, .ref x)] [.int (zI (sumZ (fun j => bz (co 3 j = 2)) (co 0 0).toNat)), .int (zI (sumZ (fun j => bz (co 3 j = 1)) (co 0 0).toNat))]
  have hf_3 := cnt_b (fun j => co 3 j = 2) (co 0 0).toNat
  refine v_iadd X dX9_guiltyShare_16 17 rfl ?_
  refine v_istore_n X dX9_guiltyShare_17 18 rfl rfl (by decide) (L' := [(1, .int (zI (sumZ (fun j => bz (co 3 j = 1)) (co 0 0).toNat + sumZ (fun j => bz (co 3 j = 2)) (co 0 0).toNat))), (0, .ref x)]) rfl ?_
  refine v_iload_n X dX9_guiltyShare_18 19 rfl 0 rfl ?_
  refine v_if_ne X (by omega) dX9_guiltyShare_19 22 33 rfl (by decide) (fun c_4 => ?_) (fun c_4 => ?_)
  · skip
    refine v_aload_n X dX9_guiltyShare_33 34 rfl 1 rfl ?_
    refine v_getf X hM.C h_cm.1 inX9 0 rfl rfl 0 (by decide) kf_X9_10 (fun _ h => h) rfl dX9_guiltyShare_34 37 rfl ?_
    refine v_rdV X hM.C h_co.1 (c_X0_countGuilty l E (x + 1) co hO) kvX0_countGuilty kiX0_countGuilty kl_X9_257 rfl rfl (As := []) rfl rfl rfl dX9_guiltyShare_37 40 rfl ?_
    show V p l e (rmL 6 1 6) s m args below meth cd Q 2 s.heap [] 0 0 40 [(1, .int (zI (sumZ (fun j => bz (co 3 j = 1)) (co 0 0).toNat + sumZ (fun j => bz (co 3 j = 2)) (co 0 0).toNat))), (0, .ref x)] [.int (zI (sumZ (fun j => bz (¬ co 4 j = 0)) (co 0 0).toNat))]
    have hf_5 := cnt_b (fun j => ¬ co 4 j = 0) (co 0 0).toNat
    refine v_i2f X dX9_guiltyShare_40 41 rfl ?_
    refine v_iload_n X dX9_guiltyShare_41 42 rfl 0 rfl ?_
    refine v_i2f X dX9_guiltyShare_42 43 rfl ?_
    refine v_fdiv X ((fvD_ok (by omega) (by omega) (by omega) (by omega)).1) dX9_guiltyShare_43 44 rfl ?_
    exfalso; omega
  · skip
    subst hQ; exact v_throwW X hl tb hlk hM xt_ARI xk_ARI 25 rfl dX9_guiltyShare_22 dX9_guiltyShare_25 dX9_guiltyShare_26 dX9_guiltyShare_29 dX9_guiltyShare_32 rfl (fun H1 hF => trivial)
