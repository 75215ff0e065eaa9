/-! the keywords: constants of Program -/
def kwLen (q : Nat) : Int := ((kwL.getD q 0 : Nat) : Int)
def kwZ (q : Nat) (k : Int) : Int := ((kwB.getD q []).getD k.toNat 0).toInt
theorem kwLen_b {q : Nat} (h : q < 7) : 6 ≤ kwLen q ∧ kwLen q ≤ 9 := by
  have key : ∀ j : Fin 7, 6 ≤ kwLen j ∧ kwLen j ≤ 9 := by decide +kernel
  exact key ⟨q, h⟩
theorem kwZ_b {q : Nat} {k : Int} (h : q < 7) (h1 : k < kwLen q) : 0 ≤ kwZ q k ∧ kwZ q k < 128 := by
  have key : ∀ j : Fin 7, ∀ i : Fin 9, 0 ≤ kwZ j (((i : Nat) : Int)) ∧ kwZ j (((i : Nat) : Int)) < 128 := by decide +kernel
  have h2 := kwLen_b h
  by_cases h0 : 0 ≤ k
  · have h3 := key ⟨q, h⟩ ⟨k.toNat, by omega⟩
    rwa [show ((k.toNat : Nat) : Int) = k from Int.toNat_of_nonneg h0] at h3
  · have h3 := key ⟨q, h⟩ ⟨0, by omega⟩
    have e : kwZ q k = kwZ q ((0 : Nat) : Int) := by unfold kwZ; rw [show k.toNat = 0 by omega]; rfl
    rw [e]
    exact h3
section KW
variable {p : Program} {l : Launch} {e : Env} {R : Room} {s : State} {m : MethodId} {args : Array Value} {below : List Frame} {meth : Method} {c : Code} {Q : State → Prop} {nL : Nat} {H : Heap} {locs : List Loc} {k n : Nat} {pc : Nat} {L L' : List (Nat × Value)} {st : List Value} {cc : ByteArray} {own : String} {E : Nat → Nat → Nat}
theorem kw_S {q : Nat} (hC : Cx E s H) (hq : q < 7) : va_O "java/lang/String" (E 105 q) (Az E) s H ∧ va_OF "java/lang/String" "coder" "B" (.int 0) (E 105 q) (Az E) s H ∧ va_OF "java/lang/String" "value" "[B" (.ref (E 106 q)) (E 105 q) (Az E) s H ∧ va_T .byte (E 106 q) (kwL.getD q 0) (fun j => .int ((kwB.getD q []).getD j 0)) (Az E) s H := hC.2.2.2.2.1.1.1 q hq
theorem v_kwg {index q : Nat} (X : CF p m c cc nL s args own) (hC : Cx E s H) (hq : q < 7) (hlink : Cond.fieldLink own index "java/lang/String" "value" "[B" ∈ WA) (hdg : decode cc pc = .ok (.getfield index, 3)) (pc' : Nat) (hp : pc + 3 = pc') (kk : V p l e R s m args below meth c Q nL H locs k n pc' L (.ref (E 106 q) :: st)) : V p l e R s m args below meth c Q nL H locs k n pc L (.ref (E 105 q) :: st) := by
  subst hp
  intro ls hl
  obtain ⟨cf, k, fi, f, cell, h1, h2, h3, h4, h5, h6⟩ := (kw_S hC hq).2.2.1
  exact W.getf X.1 X.2.1 X.2.2.2.1 (X.2.2.2.2 _ hlink) h1 h2 h3 h4 h5 rfl rfl hdg (kk ls hl)
theorem v_kwc {index q : Nat} (X : CF p m c cc nL s args own) (hC : Cx E s H) (hq : q < 7) (hlink : Cond.fieldLink own index "java/lang/String" "coder" "B" ∈ WA) (hdg : decode cc pc = .ok (.getfield index, 3)) (pc' : Nat) (hp : pc + 3 = pc') (kk : V p l e R s m args below meth c Q nL H locs k n pc' L (.int (zI 0) :: st)) : V p l e R s m args below meth c Q nL H locs k n pc L (.ref (E 105 q) :: st) := by
  subst hp
  intro ls hl
  obtain ⟨cf, k, fi, f, cell, h1, h2, h3, h4, h5, h6⟩ := (kw_S hC hq).2.1
  exact W.getf X.1 X.2.1 X.2.2.2.1 (X.2.2.2.2 _ hlink) h1 h2 h3 h4 h5 rfl rfl hdg (kk ls hl)
theorem v_kwl {q : Nat} (X : CF p m c cc nL s args own) (hC : Cx E s H) (hq : q < 7) (hdg : decode cc pc = .ok (.arraylength, 1)) (pc' : Nat) (hp : pc + 1 = pc') (kk : V p l e R s m args below meth c Q nL H locs k n pc' L (.int (zI (kwLen q)) :: st)) : V p l e R s m args below meth c Q nL H locs k n pc L (.ref (E 106 q) :: st) := by
  subst hp
  intro ls hl
  obtain ⟨cell, h1, h2, h3, h4, h5, h6, h7⟩ := (kw_S hC hq).2.2.2
  exact W.alen X.1 X.2.1 h1 h2 (h5.trans (zI_nat _)) rfl rfl hdg (kk ls hl)
theorem v_kwb {q : Nat} {z : Int} (X : CF p m c cc nL s args own) (hC : Cx E s H) (hq : q < 7) (h0 : 0 ≤ z) (h1 : z < kwLen q) (hdg : decode cc pc = .ok (.baload, 1)) (pc' : Nat) (hp : pc + 1 = pc') (kk : V p l e R s m args below meth c Q nL H locs k n pc' L (.int (zI (kwZ q z)) :: st)) : V p l e R s m args below meth c Q nL H locs k n pc L (.int (zI z) :: .ref (E 106 q) :: st) := by
  subst hp
  intro ls hl
  obtain ⟨cell, g1, g2, g3, g4, g5, g6, g7⟩ := (kw_S hC hq).2.2.2
  have hkb := kwLen_b hq
  have hz : (zI z).toNatClampNeg = z.toNat := zI_clamp h0 (by omega)
  have hlt : z.toNat < kwL.getD q 0 := by unfold kwLen at h1; omega
  have g8 := g6 z.toNat hlt
  refine W.bald X.1 X.2.1 g1 g2 g3 ?_ (by rw [hz]; exact g8) rfl rfl hdg (by have := kk ls hl; unfold kwZ at this; rwa [zI_asI] at this)
  intro q0
  rcases q0 with q0 | q0
  · rw [show (0 : Int32) = zI 0 from rfl, zI_lt (by omega) (by omega)] at q0
    omega
  · rw [hz] at q0
    omega
theorem v_kws {index : Nat} (X : CF p m c cc nL s args own) (hC : Cx E s H) (i : Nat) {r : String × Nat × String} (hr : SR[i]? = some r) (ho : r.1 = own) (hi : r.2.1 = index) (hdg : decode cc pc = .ok (.ldc index, 2)) (pc' : Nat) (hp : pc + 2 = pc') (kk : V p l e R s m args below meth c Q nL H locs k n pc' L (.ref (E 105 i) :: st)) : V p l e R s m args below meth c Q nL H locs k n pc L st := by
  subst hp; subst ho; subst hi
  exact fun ls hl => va_ldcS X.1 X.2.1 X.2.2.2.1 (hC.2.2.2.2.1.2 i r hr) hdg (kk ls hl)
theorem v_bret0 {z' : Int} (X : CF p m c cc nL s args own) (hr : meth.sig.returnType = some .byte) (hlk : meth.locks = false) (hdg : decode cc pc = .ok (.ireturn, 1)) (hz : z' = 0) : V p l e R s m args below meth c (MQ below (Q0 (some (.int (zI z')))) args s k n (fun _ => False)) nL s.heap [] k n pc L [.int (zI 0)] := by
  subst hz
  exact fun ls hl => W.zret X.1 X.2.1 hr rfl (fun t ht hW => ⟨rfl, ht⟩) (fun _ h => by cases h) hdg hlk
variable {y : MethodName} {cy : ByteArray} {my N Lc idx : Nat} {ry : Option FieldType} {wc : va_W} {w : Option Value} {q : Nat} {As st0 : List Value}
/-- a method of a keyword -/
theorem v_rdK (X : CF p m c cc nL s args own) (hC : Cx E s H) (hq : q < 7) (hM : Rd l y cy my ry Lc E (.ref (E 105 q) :: As) [] w) (hk : KV y cy my ry N) (hi : KI y) (hy : y.cls = "java/lang/String") (hl : Cond.methodLink own idx y ∈ WA) (hst : st0 = As.reverse ++ .ref (E 105 q) :: st) (hn : As.length = N)
    (hR : (Nat.ble (Lc + 1) R.frames && Nat.ble (8 + (my + 11) + 60 * Lc) R.locals && Nat.ble k R.cells && Nat.ble n R.slots && Nat.ble (st.map fun v => v.category).sum 8) = true) (hdg : decode cc pc = .ok (.invokevirtual idx, 3)) (pc' : Nat) (hp : pc + 3 = pc')
    (kk : V p l e R s m args below meth c Q nL H locs k n pc' L (w.toList ++ st)) : V p l e R s m args below meth c Q nL H locs k n pc L st0 := by
  subst hp
  obtain ⟨r1, r2, r3⟩ := room_ok hR
  intro ls hls
  have cw : CallW R s args own y.cls idx y cy my ry (.code y cy my ry :: WA) (rmL Lc 0 0) 0 0 N := ⟨kv_callB X hk hl rfl rfl r1, X.2.2.2.2 _ hi.1, X.2.2.2.2 _ hi.2⟩
  refine rd_call (va_runV (As := As) (rest := st) X hM cw ⟨P0_blind, ?_, fun U hU hW => ⟨rfl, by rw [hU]; exact hC.warm hW, by rw [hU]; exact ws0 E H⟩⟩ rfl hn hls.1 hst (lv_room r3) hdg r2) (kk ls hls)
  obtain ⟨cell, h1, h2, h3, -⟩ := (kw_S hC hq).1
  exact ⟨cell, h1, h2, by rw [hy]; exact h3⟩
end KW
set_option maxHeartbeats 4000000 in
set_option maxRecDepth 20000 in
theorem c_J0_coder_7d493 (l : Launch) (E : Nat → Nat → Nat) (q : Nat) (hq : q < 7) : Rd l yJ0_coder_7d493 cJ0_coder_7d493 1 (some .byte) 0 E [.ref (E 105 q)] ([]) (some (.int (zI 0))) := by
  refine Rd.start (own := RJ0) rfl (by decide +kernel) (Nat.le_of_ble_eq_true rfl) ?_
  intro p e s m below meth cd args Q hQ X hr hlk hC hP
  refine v_comp X hC kf_J0_38 dJ0_coder_7d493_0 3 rfl ?_
  refine v_if_eq X (by omega) dJ0_coder_7d493_3 6 13 rfl (by decide) (fun c_1 => ?_) (fun c_1 => ?_)
  · skip
    exfalso; omega
  · skip
    refine v_aload_n X dJ0_coder_7d493_6 7 rfl 0 rfl ?_
    refine v_kwc X hC hq kf_J0_15 dJ0_coder_7d493_7 10 rfl ?_
    refine v_goto X dJ0_coder_7d493_10 14 (by decide) ?_
    subst hQ; exact v_bret0 X hr hlk dJ0_coder_7d493_14 rfl
set_option maxHeartbeats 4000000 in
set_option maxRecDepth 20000 in
theorem c_J0_isLatin1_aae02 (l : Launch) (E : Nat → Nat → Nat) (q : Nat) (hq : q < 7) : Rd l yJ0_isLatin1_aae02 cJ0_isLatin1_aae02 1 (some .boolean) 0 E [.ref (E 105 q)] ([]) (some (.int (zI (bz ((0 : Int) = 0))))) := by
  refine Rd.start (own := RJ0) rfl (by decide +kernel) (Nat.le_of_ble_eq_true rfl) ?_
  intro p e s m below meth cd args Q hQ X hr hlk hC hP
  refine v_comp X hC kf_J0_38 dJ0_isLatin1_aae02_0 3 rfl ?_
  refine v_if_eq X (by omega) dJ0_isLatin1_aae02_3 6 17 rfl (by decide) (fun c_1 => ?_) (fun c_1 => ?_)
  · skip
    exfalso; omega
  · skip
    refine v_aload_n X dJ0_isLatin1_aae02_6 7 rfl 0 rfl ?_
    refine v_kwc X hC hq kf_J0_15 dJ0_isLatin1_aae02_7 10 rfl ?_
    refine v_if_ne X (by omega) dJ0_isLatin1_aae02_10 13 17 rfl (by decide) (fun c_2 => ?_) (fun c_2 => ?_)
    · skip
      exfalso; omega
    · skip
      refine v_iconst X dJ0_isLatin1_aae02_13 14 rfl ?_
      refine v_goto X dJ0_isLatin1_aae02_14 18 (by decide) ?_
      subst hQ; exact v_zret0 X hr hlk dJ0_isLatin1_aae02_18 (bz_t (by omega))
set_option maxHeartbeats 4000000 in
set_option maxRecDepth 20000 in
theorem c_J0_length_8abf5 (l : Launch) (E : Nat → Nat → Nat) (q : Nat) (hq : q < 7) : Rd l yJ0_length_8abf5 cJ0_length_8abf5 1 (some .int) 1 E [.ref (E 105 q)] ([]) (some (.int (zI (kwLen q)))) := by
  refine Rd.start (own := RJ0) rfl (by decide +kernel) (Nat.le_of_ble_eq_true rfl) ?_
  intro p e s m below meth cd args Q hQ X hr hlk hC hP
  have hkl := kwLen_b hq
  refine v_aload_n X dJ0_length_8abf5_0 1 rfl 0 rfl ?_
  refine v_kwg X hC hq kf_J0_9 dJ0_length_8abf5_1 4 rfl ?_
  refine v_kwl X hC hq dJ0_length_8abf5_4 5 rfl ?_
  refine v_aload_n X dJ0_length_8abf5_5 6 rfl 0 rfl ?_
  refine v_rdK X hC hq (c_J0_coder_7d493 l E q hq) kvJ0_coder_7d493 kiJ0_coder_7d493 rfl kl_J0_335 (As := []) rfl rfl rfl dJ0_length_8abf5_6 9 rfl ?_
  show V p l e (rmL 1 0 0) s m args below meth cd Q 1 s.heap [] 0 0 9 [(0, .ref (E 105 q))] [.int (zI 0), .int (zI (kwLen q))]
  refine v_ishr0 X dJ0_length_8abf5_9 10 rfl ?_
  subst hQ; exact v_iret0 X hr hlk dJ0_length_8abf5_10 rfl
set_option maxHeartbeats 4000000 in
set_option maxRecDepth 20000 in
theorem c_J1_charAt_3b067 (l : Launch) (E : Nat → Nat → Nat) (q : Nat) (k : Int) (hq : q < 7) (k0 : 0 ≤ k) (k1 : k < kwLen q) : Rd l yJ1_charAt_3b067 cJ1_charAt_3b067 2 (some .char) 2 E [.ref (E 106 q), .int (zI k)] ([]) (some (.int (zI (kwZ q k)))) := by
  refine Rd.start (own := RJ1) rfl (by decide +kernel) (Nat.le_of_ble_eq_true rfl) ?_
  intro p e s m below meth cd args Q hQ X hr hlk hC hP
  have hkl := kwLen_b hq
  refine v_iload_n X dJ1_charAt_3b067_0 1 rfl 1 rfl ?_
  refine v_aload_n X dJ1_charAt_3b067_1 2 rfl 0 rfl ?_
  refine v_kwl X hC hq dJ1_charAt_3b067_2 3 rfl ?_
  refine v_rdS X hC (ws0 E s.heap) (c_J0_checkIndex_df160 l E k (kwLen q) k0 (by omega) (by omega)) kvJ0_checkIndex_df160 ksJ0_checkIndex_df160 kl_J1_9 (As := [.int (zI k), .int (zI (kwLen q))]) rfl rfl rfl dJ1_charAt_3b067_3 6 rfl ?_
  show V p l e (rmL 2 0 0) s m args below meth cd Q 2 s.heap [] 0 0 6 [(0, .ref (E 106 q)), (1, .int (zI k))] []
  refine v_aload_n X dJ1_charAt_3b067_6 7 rfl 0 rfl ?_
  refine v_iload_n X dJ1_charAt_3b067_7 8 rfl 1 rfl ?_
  refine v_kwb X hC hq (by omega) (by omega) dJ1_charAt_3b067_8 9 rfl ?_
  refine v_sipush X dJ1_charAt_3b067_9 12 rfl rfl ?_
  refine v_iandL X (kwZ_b hq k1) dJ1_charAt_3b067_12 13 rfl ?_
  refine v_i2cL X (kwZ_b hq k1) dJ1_charAt_3b067_13 14 rfl ?_
  subst hQ; exact v_cret0 X (kwZ_b hq k1) hr hlk dJ1_charAt_3b067_14 rfl
set_option maxHeartbeats 4000000 in
set_option maxRecDepth 20000 in
theorem c_J0_charAt_5068e (l : Launch) (E : Nat → Nat → Nat) (q : Nat) (k : Int) (hq : q < 7) (k0 : 0 ≤ k) (k1 : k < kwLen q) : Rd l yJ0_charAt_5068e cJ0_charAt_5068e 2 (some .char) 3 E [.ref (E 105 q), .int (zI k)] ([]) (some (.int (zI (kwZ q k)))) := by
  refine Rd.start (own := RJ0) rfl (by decide +kernel) (Nat.le_of_ble_eq_true rfl) ?_
  intro p e s m below meth cd args Q hQ X hr hlk hC hP
  have hkl := kwLen_b hq
  refine v_aload_n X dJ0_charAt_5068e_0 1 rfl 0 rfl ?_
  refine v_rdK X hC hq (c_J0_isLatin1_aae02 l E q hq) kvJ0_isLatin1_aae02 kiJ0_isLatin1_aae02 rfl kl_J0_492 (As := []) rfl rfl rfl dJ0_charAt_5068e_1 4 rfl ?_
  show V p l e (rmL 3 0 0) s m args below meth cd Q 2 s.heap [] 0 0 4 [(0, .ref (E 105 q)), (1, .int (zI k))] [.int (zI (bz ((0 : Int) = 0)))]
  refine v_bif_eq X dJ0_charAt_5068e_4 7 16 rfl (by decide) (fun c_1 => ?_) (fun c_1 => ?_)
  · skip
    exfalso; omega
  · skip
    refine v_aload_n X dJ0_charAt_5068e_7 8 rfl 0 rfl ?_
    refine v_kwg X hC hq kf_J0_9 dJ0_charAt_5068e_8 11 rfl ?_
    refine v_iload_n X dJ0_charAt_5068e_11 12 rfl 1 rfl ?_
    refine v_rdS X hC (ws0 E s.heap) (c_J1_charAt_3b067 l E q k hq k0 k1) kvJ1_charAt_3b067 ksJ1_charAt_3b067 kl_J0_495 (As := [.ref (E 106 q), .int (zI k)]) rfl rfl rfl dJ0_charAt_5068e_12 15 rfl ?_
    show V p l e (rmL 3 0 0) s m args below meth cd Q 2 s.heap [] 0 0 15 [(0, .ref (E 105 q)), (1, .int (zI k))] [.int (zI (kwZ q k))]
    subst hQ; exact v_cret0 X (kwZ_b hq k1) hr hlk dJ0_charAt_5068e_15 rfl
set_option maxHeartbeats 4000000 in
set_option maxRecDepth 20000 in
theorem c_X5_keywordOf_0 (l : Launch) (E : Nat → Nat → Nat)  : Rd l yX5_keywordOf cX5_keywordOf 1 (some (.object "java/lang/String")) 0 E [.int (zI 0)] ([]) (some (.ref (E 105 0))) := by
  refine Rd.start (own := RX5) rfl (by decide +kernel) (Nat.le_of_ble_eq_true rfl) ?_
  intro p e s m below meth cd args Q hQ X hr hlk hC hP
  refine v_iload_n X dX5_keywordOf_0 1 rfl 0 rfl ?_
  refine v_tabIn X (by omega) dX5_keywordOf_1 (by omega) (by omega) 0 (by omega) (off := 39) rfl 40 (by decide) ?_
  refine v_kws X hC 0 rfl rfl rfl dX5_keywordOf_40 42 rfl ?_
  subst hQ; exact v_aret0 X hr (Or.inl ⟨_, rfl⟩) hlk dX5_keywordOf_42 (Or.inr ⟨_, rfl⟩)
set_option maxHeartbeats 4000000 in
set_option maxRecDepth 20000 in
theorem c_X5_keywordOf_1 (l : Launch) (E : Nat → Nat → Nat)  : Rd l yX5_keywordOf cX5_keywordOf 1 (some (.object "java/lang/String")) 0 E [.int (zI 1)] ([]) (some (.ref (E 105 1))) := by
  refine Rd.start (own := RX5) rfl (by decide +kernel) (Nat.le_of_ble_eq_true rfl) ?_
  intro p e s m below meth cd args Q hQ X hr hlk hC hP
  refine v_iload_n X dX5_keywordOf_0 1 rfl 0 rfl ?_
  refine v_tabIn X (by omega) dX5_keywordOf_1 (by omega) (by omega) 1 (by omega) (off := 42) rfl 43 (by decide) ?_
  refine v_kws X hC 1 rfl rfl rfl dX5_keywordOf_43 45 rfl ?_
  subst hQ; exact v_aret0 X hr (Or.inl ⟨_, rfl⟩) hlk dX5_keywordOf_45 (Or.inr ⟨_, rfl⟩)
set_option maxHeartbeats 4000000 in
set_option maxRecDepth 20000 in
theorem c_X5_keywordOf_2 (l : Launch) (E : Nat → Nat → Nat)  : Rd l yX5_keywordOf cX5_keywordOf 1 (some (.object "java/lang/String")) 0 E [.int (zI 2)] ([]) (some (.ref (E 105 2))) := by
  refine Rd.start (own := RX5) rfl (by decide +kernel) (Nat.le_of_ble_eq_true rfl) ?_
  intro p e s m below meth cd args Q hQ X hr hlk hC hP
  refine v_iload_n X dX5_keywordOf_0 1 rfl 0 rfl ?_
  refine v_tabIn X (by omega) dX5_keywordOf_1 (by omega) (by omega) 2 (by omega) (off := 45) rfl 46 (by decide) ?_
  refine v_kws X hC 2 rfl rfl rfl dX5_keywordOf_46 48 rfl ?_
  subst hQ; exact v_aret0 X hr (Or.inl ⟨_, rfl⟩) hlk dX5_keywordOf_48 (Or.inr ⟨_, rfl⟩)
set_option maxHeartbeats 4000000 in
set_option maxRecDepth 20000 in
theorem c_X5_keywordOf_3 (l : Launch) (E : Nat → Nat → Nat)  : Rd l yX5_keywordOf cX5_keywordOf 1 (some (.object "java/lang/String")) 0 E [.int (zI 3)] ([]) (some (.ref (E 105 3))) := by
  refine Rd.start (own := RX5) rfl (by decide +kernel) (Nat.le_of_ble_eq_true rfl) ?_
  intro p e s m below meth cd args Q hQ X hr hlk hC hP
  refine v_iload_n X dX5_keywordOf_0 1 rfl 0 rfl ?_
  refine v_tabIn X (by omega) dX5_keywordOf_1 (by omega) (by omega) 3 (by omega) (off := 48) rfl 49 (by decide) ?_
  refine v_kws X hC 3 rfl rfl rfl dX5_keywordOf_49 51 rfl ?_
  subst hQ; exact v_aret0 X hr (Or.inl ⟨_, rfl⟩) hlk dX5_keywordOf_51 (Or.inr ⟨_, rfl⟩)
set_option maxHeartbeats 4000000 in
set_option maxRecDepth 20000 in
theorem c_X5_keywordOf_4 (l : Launch) (E : Nat → Nat → Nat)  : Rd l yX5_keywordOf cX5_keywordOf 1 (some (.object "java/lang/String")) 0 E [.int (zI 4)] ([]) (some (.ref (E 105 4))) := by
  refine Rd.start (own := RX5) rfl (by decide +kernel) (Nat.le_of_ble_eq_true rfl) ?_
  intro p e s m below meth cd args Q hQ X hr hlk hC hP
  refine v_iload_n X dX5_keywordOf_0 1 rfl 0 rfl ?_
  refine v_tabIn X (by omega) dX5_keywordOf_1 (by omega) (by omega) 4 (by omega) (off := 51) rfl 52 (by decide) ?_
  refine v_kws X hC 4 rfl rfl rfl dX5_keywordOf_52 54 rfl ?_
  subst hQ; exact v_aret0 X hr (Or.inl ⟨_, rfl⟩) hlk dX5_keywordOf_54 (Or.inr ⟨_, rfl⟩)
set_option maxHeartbeats 4000000 in
set_option maxRecDepth 20000 in
theorem c_X5_keywordOf_5 (l : Launch) (E : Nat → Nat → Nat)  : Rd l yX5_keywordOf cX5_keywordOf 1 (some (.object "java/lang/String")) 0 E [.int (zI 5)] ([]) (some (.ref (E 105 5))) := by
  refine Rd.start (own := RX5) rfl (by decide +kernel) (Nat.le_of_ble_eq_true rfl) ?_
  intro p e s m below meth cd args Q hQ X hr hlk hC hP
  refine v_iload_n X dX5_keywordOf_0 1 rfl 0 rfl ?_
  refine v_tabIn X (by omega) dX5_keywordOf_1 (by omega) (by omega) 5 (by omega) (off := 54) rfl 55 (by decide) ?_
  refine v_kws X hC 5 rfl rfl rfl dX5_keywordOf_55 57 rfl ?_
  subst hQ; exact v_aret0 X hr (Or.inl ⟨_, rfl⟩) hlk dX5_keywordOf_57 (Or.inr ⟨_, rfl⟩)
set_option maxHeartbeats 4000000 in
set_option maxRecDepth 20000 in
theorem c_X5_keywordOf_6 (l : Launch) (E : Nat → Nat → Nat)  : Rd l yX5_keywordOf cX5_keywordOf 1 (some (.object "java/lang/String")) 0 E [.int (zI 6)] ([]) (some (.ref (E 105 6))) := by
  refine Rd.start (own := RX5) rfl (by decide +kernel) (Nat.le_of_ble_eq_true rfl) ?_
  intro p e s m below meth cd args Q hQ X hr hlk hC hP
  refine v_iload_n X dX5_keywordOf_0 1 rfl 0 rfl ?_
  refine v_tabOut X (by omega) dX5_keywordOf_1 (by omega) 58 (by decide) ?_
  refine v_kws X hC 6 rfl rfl rfl dX5_keywordOf_58 60 rfl ?_
  subst hQ; exact v_aret0 X hr (Or.inl ⟨_, rfl⟩) hlk dX5_keywordOf_60 (Or.inr ⟨_, rfl⟩)
theorem c_X5_keywordOf (l : Launch) (E : Nat → Nat → Nat) (k : Int) (k0 : 0 ≤ k) (k1 : k < 7) : Rd l yX5_keywordOf cX5_keywordOf 1 (some (.object "java/lang/String")) 0 E [.int (zI k)] [] (some (.ref (E 105 k.toNat))) := by
  rcases (show k = 0 ∨ k = 1 ∨ k = 2 ∨ k = 3 ∨ k = 4 ∨ k = 5 ∨ k = 6 by omega) with q | q | q | q | q | q | q <;> subst q
  · exact c_X5_keywordOf_0 l E
  · exact c_X5_keywordOf_1 l E
  · exact c_X5_keywordOf_2 l E
  · exact c_X5_keywordOf_3 l E
  · exact c_X5_keywordOf_4 l E
  · exact c_X5_keywordOf_5 l E
  · exact c_X5_keywordOf_6 l E
def sgZ (f : Int → Int) (n i : Int) : Int := if 0 ≤ i ∧ i < n then f i else 0
theorem sgZ_b {f : Int → Int} (hf : ∀ j : Int, 0 ≤ f j ∧ f j < 128) (n i : Int) : 0 ≤ sgZ f n i ∧ sgZ f n i < 128 := by
  have := hf i
  unfold sgZ
  split <;> omega
/-- letters of the keyword that stand at pos -/
def fwZ (f : Int → Int) (n pos : Int) (q : Nat) : Int := if firstZ (fun j => ¬ sgZ f n (pos + j) = kwZ q j) (kwLen q).toNat = -1 then kwLen q else firstZ (fun j => ¬ sgZ f n (pos + j) = kwZ q j) (kwLen q).toNat
theorem fw_hit {f : Int → Int} {n pos : Int} {q : Nat} {k : Int} (h0 : 0 ≤ k) (h1 : k < kwLen q) (hk : ¬ sgZ f n (pos + k) = kwZ q k) (hj : ∀ j : Int, 0 ≤ j → j < k → ¬ ¬ sgZ f n (pos + j) = kwZ q j) : fwZ f n pos q = k := by
  unfold fwZ
  rw [firstZ_hit (p := fun j => ¬ sgZ f n (pos + j) = kwZ q j) h0 (by omega) hk hj, if_neg (by omega)]
theorem fw_none {f : Int → Int} {n pos : Int} {q : Nat} (hj : ∀ j : Int, 0 ≤ j → j < (kwLen q).toNat → ¬ ¬ sgZ f n (pos + j) = kwZ q j) : fwZ f n pos q = kwLen q := by
  unfold fwZ
  rw [if_pos (firstZ_none (p := fun j => ¬ sgZ f n (pos + j) = kwZ q j) hj)]
theorem fwZ_b (f : Int → Int) (n pos : Int) {q : Nat} (hq : q < 7) : 0 ≤ fwZ f n pos q ∧ fwZ f n pos q ≤ kwLen q := by
  have h1 := kwLen_b hq
  have h2 := firstZ_b (fun j => ¬ sgZ f n (pos + j) = kwZ q j) (kwLen q).toNat
  unfold fwZ
  split <;> omega
/-- the keyword that is followed furthest, of the first k -/
def bkZ (f : Int → Int) (n pos : Int) : Nat → Nat
  | 0 => 0
  | k + 1 => if fwZ f n pos (bkZ f n pos k) < fwZ f n pos k then k else bkZ f n pos k
theorem bkZ_b (f : Int → Int) (n pos : Int) : ∀ k : Nat, bkZ f n pos k = 0 ∨ bkZ f n pos k < k
  | 0 => Or.inl rfl
  | k + 1 => by
    have := bkZ_b f n pos k
    unfold bkZ
    split <;> omega
theorem bkZ_s (f : Int → Int) (n pos : Int) (k : Nat) : bkZ f n pos (k + 1) = if fwZ f n pos (bkZ f n pos k) < fwZ f n pos k then k else bkZ f n pos k := rfl
set_option maxHeartbeats 4000000 in
set_option maxRecDepth 20000 in
theorem c_X5_signAt (l : Launch) (E : Nat → Nat → Nat) (g : Nat) (d : Nat) (r : Nat) (v : Nat) (N : Nat) (f : Int → Int) (pos : Int) (siz : Int) (ml : Int) (n : Int) (i : Int) (n0 : 0 ≤ n) (n1 : n ≤ (N : Int)) (N1 : N < 1000) (hf : ∀ j : Int, 0 ≤ f j ∧ f j < 128) (gi : Rg i) : Rd l yX5_signAt cX5_signAt 2 (some .char) 4 E [.ref g, .int (zI i)] ([(g, .inr (8, [.ref d, .int (zI pos), .int (zI siz), .ref r, .ref (r + 2), .ref (r + 4), .ref (r + 6), .ref (r + 8)]))] ++ [(d, .inr (1, [.ref v, .int (zI 0), .int (zI ml), .int (zI n)]))] ++ [(v, .inl (E 102 2, N, .inl (zA f)))]) (some (.int (zI (sgZ f n i)))) := by
  refine Rd.start (own := RX5) rfl (by decide +kernel) (Nat.le_of_ble_eq_true rfl) ?_
  intro p e s m below meth cd args Q hQ X hr hlk hC hP
  have h_sa := PW.right hP
  have h_sb := PW.right (PW.left hP)
  have h_pg := (PW.left (PW.left hP))
  refine v_iload_n X dX5_signAt_0 1 rfl 1 rfl ?_
  refine v_if_lt X (by omega) dX5_signAt_1 4 26 rfl (by decide) (fun c_1 => ?_) (fun c_1 => ?_)
  · skip
    refine v_iconst X dX5_signAt_26 27 rfl ?_
    subst hQ; exact v_cret0 X (by first | exact hf _ | omega) hr hlk dX5_signAt_27 (by first | (rw [sgZ, if_pos (by omega)]) | (rw [sgZ, if_neg (by omega)]))
  · skip
    refine v_iload_n X dX5_signAt_4 5 rfl 1 rfl ?_
    refine v_aload_n X dX5_signAt_5 6 rfl 0 rfl ?_
    refine v_getf X hC h_pg inX5 0 rfl rfl 0 (by decide) kf_X5_12 (fun _ h => h) rfl dX5_signAt_6 9 rfl ?_
    refine v_rdV X hC h_sb (c_J4_length_8abf5 l E d v ml n) kvJ4_length_8abf5 kiJ4_length_8abf5 kl_X5_58 rfl rfl (As := []) rfl rfl rfl dX5_signAt_9 12 rfl ?_
    show V p l e (rmL 4 0 0) s m args below meth cd Q 2 s.heap [] 0 0 12 [(0, .ref g), (1, .int (zI i))] [.int (zI n), .int (zI i)]
    refine v_icmp_ge X (by omega) (by omega) dX5_signAt_12 15 26 rfl (by decide) (fun c_2 => ?_) (fun c_2 => ?_)
    · skip
      refine v_iconst X dX5_signAt_26 27 rfl ?_
      subst hQ; exact v_cret0 X (by first | exact hf _ | omega) hr hlk dX5_signAt_27 (by first | (rw [sgZ, if_pos (by omega)]) | (rw [sgZ, if_neg (by omega)]))
    · skip
      refine v_aload_n X dX5_signAt_15 16 rfl 0 rfl ?_
      refine v_getf X hC h_pg inX5 0 rfl rfl 0 (by decide) kf_X5_12 (fun _ h => h) rfl dX5_signAt_16 19 rfl ?_
      refine v_iload_n X dX5_signAt_19 20 rfl 1 rfl ?_
      refine v_rdV X hC (PW.app h_sb h_sa) (c_J4_charAt_5068e l E d v N f ml n i (by omega) (by omega) (by omega) N1 hf) kvJ4_charAt_5068e kiJ4_charAt_5068e kl_X5_119 rfl rfl (As := [.int (zI i)]) rfl rfl rfl dX5_signAt_20 23 rfl ?_
      show V p l e (rmL 4 0 0) s m args below meth cd Q 2 s.heap [] 0 0 23 [(0, .ref g), (1, .int (zI i))] [.int (zI (f i))]
      refine v_goto X dX5_signAt_23 27 (by decide) ?_
      subst hQ; exact v_cret0 X (by first | exact hf _ | omega) hr hlk dX5_signAt_27 (by first | (rw [sgZ, if_pos (by omega)]) | (rw [sgZ, if_neg (by omega)]))
set_option maxHeartbeats 4000000 in
set_option maxRecDepth 20000 in
theorem c_X5_followed (l : Launch) (E : Nat → Nat → Nat) (g : Nat) (d : Nat) (r : Nat) (v : Nat) (N : Nat) (f : Int → Int) (pos : Int) (siz : Int) (ml : Int) (n : Int) (q : Nat) (n0 : 0 ≤ n) (n1 : n ≤ (N : Int)) (N1 : N < 1000) (hf : ∀ j : Int, 0 ≤ f j ∧ f j < 128) (p0 : 0 ≤ pos) (p1 : pos ≤ 1000) (hq : q < 7) : Rd l yX5_followed cX5_followed 3 (some .int) 5 E [.ref g, .ref (E 105 q)] ([(g, .inr (8, [.ref d, .int (zI pos), .int (zI siz), .ref r, .ref (r + 2), .ref (r + 4), .ref (r + 6), .ref (r + 8)]))] ++ [(d, .inr (1, [.ref v, .int (zI 0), .int (zI ml), .int (zI n)]))] ++ [(v, .inl (E 102 2, N, .inl (zA f)))]) (some (.int (zI (fwZ f n pos q)))) := by
  refine Rd.start (own := RX5) rfl (by decide +kernel) (Nat.le_of_ble_eq_true rfl) ?_
  intro p e s m below meth cd args Q hQ X hr hlk hC hP
  have h_sa := PW.right hP
  have h_sb := PW.right (PW.left hP)
  have h_pg := (PW.left (PW.left hP))
  have hkl := kwLen_b hq
  have hN0 : (N : Int) < 1000 := by omega
  refine v_iconst X dX5_followed_0 1 rfl ?_
  refine v_istore_n X dX5_followed_1 2 rfl rfl (by decide) (L' := [(2, .int (zI 0)), (0, .ref g), (1, .ref (E 105 q))]) rfl ?_
  refine V_L (L' := [(2, .int (zI 0)), (0, .ref g), (1, .ref (E 105 q))]) (LC rfl (LC rfl (LC rfl rfl))) ?_
  refine up_loop ((kwLen q).toNat) (P := fun (i : Nat) => (∀ j : Int, 0 ≤ j → j < (i : Int) → ¬ (¬ sgZ f n (pos + j) = kwZ q j)) → V p l e (rmL 5 0 0) s m args below meth cd Q 3 s.heap [] 0 0 2 [(2, .int (zI (i : Int))), (0, .ref g), (1, .ref (E 105 q))] []) (fun i hi_i ih_i hno_i => ?_) (fun j a b => absurd b (by omega))
  have hsb := sgZ_b hf n (pos + (i : Int))
  have hkb : (i : Int) < kwLen q → 0 ≤ kwZ q (i : Int) ∧ kwZ q (i : Int) < 128 := fun h => kwZ_b hq h
  refine v_iload_n X dX5_followed_2 3 rfl 0 rfl ?_
  refine v_aload_n X dX5_followed_3 4 rfl 2 rfl ?_
  refine v_rdK X hC hq (c_J0_length_8abf5 l E q hq) kvJ0_length_8abf5 kiJ0_length_8abf5 rfl kl_X5_73 (As := []) rfl rfl rfl dX5_followed_4 7 rfl ?_
  show V p l e (rmL 5 0 0) s m args below meth cd Q 3 s.heap [] 0 0 7 [(2, .int (zI (i : Int))), (0, .ref g), (1, .ref (E 105 q))] [.int (zI (kwLen q)), .int (zI (i : Int))]
  refine v_icmp_ge X (by omega) (by omega) dX5_followed_7 10 34 rfl (by decide) (fun c_1 => ?_) (fun c_1 => ?_)
  · skip
    refine v_iload_n X dX5_followed_34 35 rfl 0 rfl ?_
    subst hQ; exact v_iret0 X hr hlk dX5_followed_35 (by first | exact fw_hit (by omega) (by omega) (by assumption) hno_i | (rw [show (i : Int) = kwLen q by omega]; exact fw_none (fun j a b => hno_i j a (by omega))))
  · skip
    refine v_aload_n X dX5_followed_10 11 rfl 1 rfl ?_
    refine v_aload_n X dX5_followed_11 12 rfl 1 rfl ?_
    refine v_getf X hC h_pg inX5 0 rfl rfl 1 (by decide) kf_X5_18 (fun _ h => h) rfl dX5_followed_12 15 rfl ?_
    show V p l e (rmL 5 0 0) s m args below meth cd Q 3 s.heap [] 0 0 15 [(2, .int (zI (i : Int))), (0, .ref g), (1, .ref (E 105 q))] [.int (zI pos), .ref g]
    refine v_iload_n X dX5_followed_15 16 rfl 0 rfl ?_
    refine v_iadd X dX5_followed_16 17 rfl ?_
    refine v_rdV X hC (PW.app (PW.app h_pg h_sb) h_sa) (c_X5_signAt l E g d r v N f pos siz ml n (pos + (i : Int)) n0 n1 N1 hf (by omega)) kvX5_signAt kiX5_signAt kl_X5_76 rfl rfl (As := [.int (zI (pos + (i : Int)))]) rfl rfl rfl dX5_followed_17 20 rfl ?_
    show V p l e (rmL 5 0 0) s m args below meth cd Q 3 s.heap [] 0 0 20 [(2, .int (zI (i : Int))), (0, .ref g), (1, .ref (E 105 q))] [.int (zI (sgZ f n (pos + (i : Int))))]
    refine v_aload_n X dX5_followed_20 21 rfl 2 rfl ?_
    refine v_iload_n X dX5_followed_21 22 rfl 0 rfl ?_
    refine v_rdK X hC hq (c_J0_charAt_5068e l E q (i : Int) hq (by omega) (by omega)) kvJ0_charAt_5068e kiJ0_charAt_5068e rfl kl_X5_80 (As := [.int (zI (i : Int))]) rfl rfl rfl dX5_followed_22 25 rfl ?_
    show V p l e (rmL 5 0 0) s m args below meth cd Q 3 s.heap [] 0 0 25 [(2, .int (zI (i : Int))), (0, .ref g), (1, .ref (E 105 q))] [.int (zI (kwZ q (i : Int))), .int (zI (sgZ f n (pos + (i : Int))))]
    have hkb2 := hkb (by omega)
    refine v_icmp_ne X (by omega) (by omega) dX5_followed_25 28 34 rfl (by decide) (fun c_2 => ?_) (fun c_2 => ?_)
    · skip
      refine v_iload_n X dX5_followed_34 35 rfl 0 rfl ?_
      subst hQ; exact v_iret0 X hr hlk dX5_followed_35 (by first | exact fw_hit (by omega) (by omega) (by assumption) hno_i | (rw [show (i : Int) = kwLen q by omega]; exact fw_none (fun j a b => hno_i j a (by omega))))
    · skip
      refine v_iinc X dX5_followed_28 31 rfl 0 rfl (by decide) (L' := [(2, .int (zI ((i : Int) + 1))), (0, .ref g), (1, .ref (E 105 q))]) rfl ?_
      refine v_goto X dX5_followed_31 2 (by decide) ?_
      exact V_L (L' := [(2, .int (zI ((i + 1 : Nat) : Int))), (0, .ref g), (1, .ref (E 105 q))]) (LC (vz (by omega)) (LC rfl (LC rfl rfl))) (ih_i (by omega) (fun j a b => by
        rcases (show j < (i : Int) ∨ (i : Int) ≤ j by omega) with q | q
        · exact hno_i j a q
        · have e : j = (i : Int) := by omega
          subst e
          first | assumption | (intro z; exact z (by assumption))))
