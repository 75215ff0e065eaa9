theorem kcn_J6_264 : Cond.constant RJ6 264 (65536 : Int32) ∈ WA := WA_of (i := 1460) (by decide +kernel) (by decide +kernel)
theorem kcn_J6_265 : Cond.constant RJ6 265 (1431655765 : Int32) ∈ WA := WA_of (i := 1464) (by decide +kernel) (by decide +kernel)
theorem kcn_J6_266 : Cond.constant RJ6 266 (858993459 : Int32) ∈ WA := WA_of (i := 1465) (by decide +kernel) (by decide +kernel)
theorem kcn_J6_267 : Cond.constant RJ6 267 (252645135 : Int32) ∈ WA := WA_of (i := 1466) (by decide +kernel) (by decide +kernel)
section RAW
variable {p : Program} {l : Launch} {e : Env} {R : Room} {s : State} {m : MethodId} {args : Array Value} {below : List Frame} {meth : Method} {c : Code} {Q : State → Prop} {nL : Nat} {H : Heap} {locs : List Loc} {k n : Nat} {pc : Nat} {L L' : List (Nat × Value)} {st : List Value} {cc : ByteArray} {own : String} {E : Nat → Nat → Nat}
theorem vr_iand {x y : Int32} (X : CF p m c cc nL s args own) (hdg : decode cc pc = .ok (.iand, 1)) (pc' : Nat) (hp : pc + 1 = pc') (kk : V p l e R s m args below meth c Q nL H locs k n pc' L (.int (x &&& y) :: st)) : V p l e R s m args below meth c Q nL H locs k n pc L (.int y :: .int x :: st) := by
  subst hp
  exact fun ls hl => lv_iand X.1 X.2.1 hdg (kk ls hl)
theorem vr_ixor {x y : Int32} (X : CF p m c cc nL s args own) (hdg : decode cc pc = .ok (.ixor, 1)) (pc' : Nat) (hp : pc + 1 = pc') (kk : V p l e R s m args below meth c Q nL H locs k n pc' L (.int (x ^^^ y) :: st)) : V p l e R s m args below meth c Q nL H locs k n pc L (.int y :: .int x :: st) := by
  subst hp
  exact fun ls hl => lv_ixor X.1 X.2.1 hdg (kk ls hl)
theorem vr_isub {x y : Int32} (X : CF p m c cc nL s args own) (hdg : decode cc pc = .ok (.isub, 1)) (pc' : Nat) (hp : pc + 1 = pc') (kk : V p l e R s m args below meth c Q nL H locs k n pc' L (.int (x - y) :: st)) : V p l e R s m args below meth c Q nL H locs k n pc L (.int y :: .int x :: st) := by
  subst hp
  exact fun ls hl => lv_isub X.1 X.2.1 hdg (kk ls hl)
theorem vr_iadd {x y : Int32} (X : CF p m c cc nL s args own) (hdg : decode cc pc = .ok (.iadd, 1)) (pc' : Nat) (hp : pc + 1 = pc') (kk : V p l e R s m args below meth c Q nL H locs k n pc' L (.int (x + y) :: st)) : V p l e R s m args below meth c Q nL H locs k n pc L (.int y :: .int x :: st) := by
  subst hp
  exact fun ls hl => lv_iadd X.1 X.2.1 hdg (kk ls hl)
theorem vr_iushr {x y : Int32} (X : CF p m c cc nL s args own) (hdg : decode cc pc = .ok (.iushr, 1)) (pc' : Nat) (hp : pc + 1 = pc') (kk : V p l e R s m args below meth c Q nL H locs k n pc' L (.int (x.toUInt32 >>> (y.toUInt32 &&& Int32.toUInt32 31)).toInt32 :: st)) : V p l e R s m args below meth c Q nL H locs k n pc L (.int y :: .int x :: st) := by
  subst hp
  exact fun ls hl => lv_iushr X.1 X.2.1 hdg rfl (kk ls hl)
theorem v_ldcwi {index : Nat} {w : Int32} {z : Int} (X : CF p m c cc nL s args own) (hk : Cond.constant own index w ∈ WA) (hz : w = zI z) (hdg : decode cc pc = .ok (.ldc_w index, 3)) (pc' : Nat) (hp : pc + 3 = pc') (kk : V p l e R s m args below meth c Q nL H locs k n pc' L (.int (zI z) :: st)) : V p l e R s m args below meth c Q nL H locs k n pc L st := by
  subst hp; subst hz
  exact fun ls hl => lv_ldcw X.1 X.2.1 X.2.2.2.1 (X.2.2.2.2 _ hk) hdg (kk ls hl)
end RAW
set_option maxHeartbeats 4000000 in
set_option maxRecDepth 20000 in
theorem c_J6_bitCount (l : Launch) (E : Nat → Nat → Nat) (a : Nat) (ha : a < 256) : Rd l yJ6_bitCount_0f7a4 cJ6_bitCount_0f7a4 1 (some .int) 0 E [.int (zI (a : Int))] [] (some (.int (zI (sumZ (fun k => (((a >>> Int.toNat k) &&& 1 : Nat) : Int)) 8)))) := by
  refine Rd.start (own := RJ6) rfl (by decide +kernel) (Nat.le_of_ble_eq_true rfl) ?_
  intro p e s m below meth cd args Q hQ X hr hlk hC hP
  refine v_iload_n X dJ6_bitCount_0f7a4_0 1 rfl 0 rfl ?_
  refine v_iload_n X dJ6_bitCount_0f7a4_1 2 rfl 0 rfl ?_
  refine v_iconst X dJ6_bitCount_0f7a4_2 3 rfl ?_
  refine vr_iushr X dJ6_bitCount_0f7a4_3 4 rfl ?_
  refine v_ldcwi X kcn_J6_265 (z := 1431655765) rfl dJ6_bitCount_0f7a4_4 7 rfl ?_
  refine vr_iand X dJ6_bitCount_0f7a4_7 8 rfl ?_
  refine vr_isub X dJ6_bitCount_0f7a4_8 9 rfl ?_
  refine v_istore_n X dJ6_bitCount_0f7a4_9 10 rfl rfl (by decide) (L' := [(0, .int _)]) rfl ?_
  refine v_iload_n X dJ6_bitCount_0f7a4_10 11 rfl 0 rfl ?_
  refine v_ldcwi X kcn_J6_266 (z := 858993459) rfl dJ6_bitCount_0f7a4_11 14 rfl ?_
  refine vr_iand X dJ6_bitCount_0f7a4_14 15 rfl ?_
  refine v_iload_n X dJ6_bitCount_0f7a4_15 16 rfl 0 rfl ?_
  refine v_iconst X dJ6_bitCount_0f7a4_16 17 rfl ?_
  refine vr_iushr X dJ6_bitCount_0f7a4_17 18 rfl ?_
  refine v_ldcwi X kcn_J6_266 (z := 858993459) rfl dJ6_bitCount_0f7a4_18 21 rfl ?_
  refine vr_iand X dJ6_bitCount_0f7a4_21 22 rfl ?_
  refine vr_iadd X dJ6_bitCount_0f7a4_22 23 rfl ?_
  refine v_istore_n X dJ6_bitCount_0f7a4_23 24 rfl rfl (by decide) (L' := [(0, .int _)]) rfl ?_
  refine v_iload_n X dJ6_bitCount_0f7a4_24 25 rfl 0 rfl ?_
  refine v_iload_n X dJ6_bitCount_0f7a4_25 26 rfl 0 rfl ?_
  refine v_iconst X dJ6_bitCount_0f7a4_26 27 rfl ?_
  refine vr_iushr X dJ6_bitCount_0f7a4_27 28 rfl ?_
  refine vr_iadd X dJ6_bitCount_0f7a4_28 29 rfl ?_
  refine v_ldcwi X kcn_J6_267 (z := 252645135) rfl dJ6_bitCount_0f7a4_29 32 rfl ?_
  refine vr_iand X dJ6_bitCount_0f7a4_32 33 rfl ?_
  refine v_istore_n X dJ6_bitCount_0f7a4_33 34 rfl rfl (by decide) (L' := [(0, .int _)]) rfl ?_
  refine v_iload_n X dJ6_bitCount_0f7a4_34 35 rfl 0 rfl ?_
  refine v_iload_n X dJ6_bitCount_0f7a4_35 36 rfl 0 rfl ?_
  refine v_bipush X dJ6_bitCount_0f7a4_36 38 rfl rfl ?_
  refine vr_iushr X dJ6_bitCount_0f7a4_38 39 rfl ?_
  refine vr_iadd X dJ6_bitCount_0f7a4_39 40 rfl ?_
  refine v_istore_n X dJ6_bitCount_0f7a4_40 41 rfl rfl (by decide) (L' := [(0, .int _)]) rfl ?_
  refine v_iload_n X dJ6_bitCount_0f7a4_41 42 rfl 0 rfl ?_
  refine v_iload_n X dJ6_bitCount_0f7a4_42 43 rfl 0 rfl ?_
  refine v_bipush X dJ6_bitCount_0f7a4_43 45 rfl rfl ?_
  refine vr_iushr X dJ6_bitCount_0f7a4_45 46 rfl ?_
  refine vr_iadd X dJ6_bitCount_0f7a4_46 47 rfl ?_
  refine v_istore_n X dJ6_bitCount_0f7a4_47 48 rfl rfl (by decide) (L' := [(0, .int _)]) rfl ?_
  refine v_iload_n X dJ6_bitCount_0f7a4_48 49 rfl 0 rfl ?_
  refine v_bipush X dJ6_bitCount_0f7a4_49 51 rfl rfl ?_
  refine vr_iand X dJ6_bitCount_0f7a4_51 52 rfl ?_
  refine V_S (st' := [.int (zI (sumZ (fun k => (((a >>> Int.toNat k) &&& 1 : Nat) : Int)) 8))]) (congrArg (fun z => [Value.int z]) (bc_k ⟨a, ha⟩)) ?_
  subst hQ; exact v_iret0 X hr hlk dJ6_bitCount_0f7a4_52 rfl
/-- the lowest member of a set -/
def tzZ (a : Nat) : Int := firstZ (fun k => a.testBit (Int.toNat k) = true) 8
def nz1 (a : Nat) : Int := ((zI (a : Int) ^^^ zI (-1)) &&& (zI (a : Int) - zI 1)).toInt
set_option maxRecDepth 100000 in
theorem tz_k : ∀ a : Fin 256, (a : Nat) ≠ 0 → (0 ≤ nz1 a ∧ nz1 a < 256) ∧ (nz1 a ≤ 0 → tzZ a = 0) ∧ (0 < nz1 a → (16 < nz1 a → (4 < nz1 a / 16 → tzZ a = 7 + nz1 a / 16 / 4 / 2) ∧ (¬ 4 < nz1 a / 16 → tzZ a = 5 + nz1 a / 16 / 2)) ∧ (¬ 16 < nz1 a → (4 < nz1 a → tzZ a = 3 + nz1 a / 4 / 2) ∧ (¬ 4 < nz1 a → tzZ a = 1 + nz1 a / 2))) := by decide +kernel
theorem us_k : ∀ (j : Fin 256) (n : Fin 5), ((zI ((j : Nat) : Int)).toUInt32 >>> ((zI ((n : Nat) : Int)).toUInt32 &&& Int32.toUInt32 31)).toInt32 = zI (((j : Nat) / 2 ^ (n : Nat) : Nat) : Int) := by decide +kernel
section RAW2
variable {p : Program} {l : Launch} {e : Env} {R : Room} {s : State} {m : MethodId} {args : Array Value} {below : List Frame} {meth : Method} {c : Code} {Q : State → Prop} {nL : Nat} {H : Heap} {locs : List Loc} {k n : Nat} {pc : Nat} {L L' : List (Nat × Value)} {st : List Value} {cc : ByteArray} {own : String} {E : Nat → Nat → Nat}
theorem v_iushrS {z w : Int} (n' : Nat) (X : CF p m c cc nL s args own) (h0 : 0 ≤ z) (h1 : z < 256) (hn : n' < 5) (hw : w = z / 2 ^ n') (hdg : decode cc pc = .ok (.iushr, 1)) (pc' : Nat) (hp : pc + 1 = pc') (kk : V p l e R s m args below meth c Q nL H locs k n pc' L (.int (zI w) :: st)) : V p l e R s m args below meth c Q nL H locs k n pc L (.int (zI (n' : Int)) :: .int (zI z) :: st) := by
  subst hp
  have e := us_k ⟨z.toNat, by omega⟩ ⟨n', hn⟩
  dsimp only at e
  rw [Int.toNat_of_nonneg h0] at e
  refine fun ls hl => lv_iushr X.1 X.2.1 hdg (e.trans ?_) (kk ls hl)
  rw [hw]
  congr 1
  rw [Int.natCast_ediv, Int.toNat_of_nonneg h0]
  simp
end RAW2
set_option maxHeartbeats 4000000 in
set_option maxRecDepth 20000 in
theorem c_J6_ntz (l : Launch) (E : Nat → Nat → Nat) (a : Nat) (ha : a < 256) (h0 : a ≠ 0) : Rd l yJ6_numberOfTrailingZeros_0f7a4 cJ6_numberOfTrailingZeros_0f7a4 2 (some .int) 0 E [.int (zI (a : Int))] [] (some (.int (zI (tzZ a)))) := by
  refine Rd.start (own := RJ6) rfl (by decide +kernel) (Nat.le_of_ble_eq_true rfl) ?_
  intro p e s m below meth cd args Q hQ X hr hlk hC hP
  obtain ⟨hb, k1, k2⟩ := tz_k ⟨a, ha⟩ h0
  dsimp only at hb k1 k2
  refine v_iload_n X dJ6_numberOfTrailingZeros_0f7a4_0 1 rfl 0 rfl ?_
  refine v_iconst X dJ6_numberOfTrailingZeros_0f7a4_1 2 rfl ?_
  refine vr_ixor X dJ6_numberOfTrailingZeros_0f7a4_2 3 rfl ?_
  refine v_iload_n X dJ6_numberOfTrailingZeros_0f7a4_3 4 rfl 0 rfl ?_
  refine v_iconst X dJ6_numberOfTrailingZeros_0f7a4_4 5 rfl ?_
  refine vr_isub X dJ6_numberOfTrailingZeros_0f7a4_5 6 rfl ?_
  refine vr_iand X dJ6_numberOfTrailingZeros_0f7a4_6 7 rfl ?_
  refine v_istore_n X dJ6_numberOfTrailingZeros_0f7a4_7 8 rfl rfl (by decide) (L' := [(0, .int _)]) rfl ?_
  refine V_L (L' := [(0, .int (zI (nz1 a)))]) (LC (by unfold nz1; rw [zI_asI]) rfl) ?_
  obtain ⟨z, hz⟩ : ∃ z, nz1 a = z := ⟨_, rfl⟩
  rw [hz] at hb k1 k2 ⊢
  refine v_iload_n X dJ6_numberOfTrailingZeros_0f7a4_8 9 rfl 0 rfl ?_
  refine v_if_gt X (by omega) dJ6_numberOfTrailingZeros_0f7a4_9 12 17 rfl (by decide) (fun c_1 => ?_) (fun c_1 => ?_)
  · have k3 := k2 c_1
    refine v_iconst X dJ6_numberOfTrailingZeros_0f7a4_17 18 rfl ?_
    refine v_istore_n X dJ6_numberOfTrailingZeros_0f7a4_18 19 rfl rfl (by decide) (L' := [(1, .int (zI (1))), (0, .int (zI (z)))]) rfl ?_
    refine v_iload_n X dJ6_numberOfTrailingZeros_0f7a4_19 20 rfl 1 rfl ?_
    refine v_ldcwi X kcn_J6_264 (z := 65536) rfl dJ6_numberOfTrailingZeros_0f7a4_20 23 rfl ?_
    refine v_icmp_le X (by omega) (by omega) dJ6_numberOfTrailingZeros_0f7a4_23 26 34 rfl (by decide) (fun c_23 => ?_) (fun c_23 => ?_)
    · skip
      refine v_iload_n X dJ6_numberOfTrailingZeros_0f7a4_34 35 rfl 1 rfl ?_
      refine v_sipush X dJ6_numberOfTrailingZeros_0f7a4_35 38 rfl rfl ?_
      refine v_icmp_le X (by omega) (by omega) dJ6_numberOfTrailingZeros_0f7a4_38 41 49 rfl (by decide) (fun c_38 => ?_) (fun c_38 => ?_)
      · skip
        refine v_iload_n X dJ6_numberOfTrailingZeros_0f7a4_49 50 rfl 1 rfl ?_
        refine v_bipush X dJ6_numberOfTrailingZeros_0f7a4_50 52 rfl rfl ?_
        refine v_icmp_le X (by omega) (by omega) dJ6_numberOfTrailingZeros_0f7a4_52 55 62 rfl (by decide) (fun c_52 => ?_) (fun c_52 => ?_)
        · skip
          refine v_iload_n X dJ6_numberOfTrailingZeros_0f7a4_62 63 rfl 1 rfl ?_
          refine v_iconst X dJ6_numberOfTrailingZeros_0f7a4_63 64 rfl ?_
          refine v_icmp_le X (by omega) (by omega) dJ6_numberOfTrailingZeros_0f7a4_64 67 74 rfl (by decide) (fun c_64 => ?_) (fun c_64 => ?_)
          · skip
            refine v_iload_n X dJ6_numberOfTrailingZeros_0f7a4_74 75 rfl 0 rfl ?_
            refine v_iload_n X dJ6_numberOfTrailingZeros_0f7a4_75 76 rfl 1 rfl ?_
            refine v_iconst X dJ6_numberOfTrailingZeros_0f7a4_76 77 rfl ?_
            refine v_iushrS 1 (w := z / 2) X (by omega) (by omega) (by decide) (by omega) dJ6_numberOfTrailingZeros_0f7a4_77 78 rfl ?_
            refine v_iadd X dJ6_numberOfTrailingZeros_0f7a4_78 79 rfl ?_
            subst hQ; exact v_iret0 X hr hlk dJ6_numberOfTrailingZeros_0f7a4_79 (by omega)
          · skip
            refine v_iinc X dJ6_numberOfTrailingZeros_0f7a4_67 70 rfl 0 rfl (by decide) (L' := [(1, .int (zI (1 + 2))), (0, .int (zI (z)))]) rfl ?_
            refine V_L (L' := [(1, .int (zI (3))), (0, .int (zI (z)))]) (LC (vz (by omega)) rfl) ?_
            refine v_iload_n X dJ6_numberOfTrailingZeros_0f7a4_70 71 rfl 1 rfl ?_
            refine v_iconst X dJ6_numberOfTrailingZeros_0f7a4_71 72 rfl ?_
            refine v_iushrS 2 (w := z / 4) X (by omega) (by omega) (by decide) (by omega) dJ6_numberOfTrailingZeros_0f7a4_72 73 rfl ?_
            refine v_istore_n X dJ6_numberOfTrailingZeros_0f7a4_73 74 rfl rfl (by decide) (L' := [(0, .int (zI (z / 4))), (1, .int (zI (3)))]) rfl ?_
            refine v_iload_n X dJ6_numberOfTrailingZeros_0f7a4_74 75 rfl 1 rfl ?_
            refine v_iload_n X dJ6_numberOfTrailingZeros_0f7a4_75 76 rfl 0 rfl ?_
            refine v_iconst X dJ6_numberOfTrailingZeros_0f7a4_76 77 rfl ?_
            refine v_iushrS 1 (w := z / 4 / 2) X (by omega) (by omega) (by decide) (by omega) dJ6_numberOfTrailingZeros_0f7a4_77 78 rfl ?_
            refine v_iadd X dJ6_numberOfTrailingZeros_0f7a4_78 79 rfl ?_
            subst hQ; exact v_iret0 X hr hlk dJ6_numberOfTrailingZeros_0f7a4_79 (by omega)
        · skip
          refine v_iinc X dJ6_numberOfTrailingZeros_0f7a4_55 58 rfl 0 rfl (by decide) (L' := [(1, .int (zI (1 + 4))), (0, .int (zI (z)))]) rfl ?_
          refine V_L (L' := [(1, .int (zI (5))), (0, .int (zI (z)))]) (LC (vz (by omega)) rfl) ?_
          refine v_iload_n X dJ6_numberOfTrailingZeros_0f7a4_58 59 rfl 1 rfl ?_
          refine v_iconst X dJ6_numberOfTrailingZeros_0f7a4_59 60 rfl ?_
          refine v_iushrS 4 (w := z / 16) X (by omega) (by omega) (by decide) (by omega) dJ6_numberOfTrailingZeros_0f7a4_60 61 rfl ?_
          refine v_istore_n X dJ6_numberOfTrailingZeros_0f7a4_61 62 rfl rfl (by decide) (L' := [(0, .int (zI (z / 16))), (1, .int (zI (5)))]) rfl ?_
          refine v_iload_n X dJ6_numberOfTrailingZeros_0f7a4_62 63 rfl 0 rfl ?_
          refine v_iconst X dJ6_numberOfTrailingZeros_0f7a4_63 64 rfl ?_
          refine v_icmp_le X (by omega) (by omega) dJ6_numberOfTrailingZeros_0f7a4_64 67 74 rfl (by decide) (fun c_64 => ?_) (fun c_64 => ?_)
          · skip
            refine v_iload_n X dJ6_numberOfTrailingZeros_0f7a4_74 75 rfl 1 rfl ?_
            refine v_iload_n X dJ6_numberOfTrailingZeros_0f7a4_75 76 rfl 0 rfl ?_
            refine v_iconst X dJ6_numberOfTrailingZeros_0f7a4_76 77 rfl ?_
            refine v_iushrS 1 (w := z / 16 / 2) X (by omega) (by omega) (by decide) (by omega) dJ6_numberOfTrailingZeros_0f7a4_77 78 rfl ?_
            refine v_iadd X dJ6_numberOfTrailingZeros_0f7a4_78 79 rfl ?_
            subst hQ; exact v_iret0 X hr hlk dJ6_numberOfTrailingZeros_0f7a4_79 (by omega)
          · skip
            refine v_iinc X dJ6_numberOfTrailingZeros_0f7a4_67 70 rfl 1 rfl (by decide) (L' := [(1, .int (zI (5 + 2))), (0, .int (zI (z / 16)))]) rfl ?_
            refine V_L (L' := [(1, .int (zI (7))), (0, .int (zI (z / 16)))]) (LC (vz (by omega)) rfl) ?_
            refine v_iload_n X dJ6_numberOfTrailingZeros_0f7a4_70 71 rfl 1 rfl ?_
            refine v_iconst X dJ6_numberOfTrailingZeros_0f7a4_71 72 rfl ?_
            refine v_iushrS 2 (w := z / 16 / 4) X (by omega) (by omega) (by decide) (by omega) dJ6_numberOfTrailingZeros_0f7a4_72 73 rfl ?_
            refine v_istore_n X dJ6_numberOfTrailingZeros_0f7a4_73 74 rfl rfl (by decide) (L' := [(0, .int (zI (z / 16 / 4))), (1, .int (zI (7)))]) rfl ?_
            refine v_iload_n X dJ6_numberOfTrailingZeros_0f7a4_74 75 rfl 1 rfl ?_
            refine v_iload_n X dJ6_numberOfTrailingZeros_0f7a4_75 76 rfl 0 rfl ?_
            refine v_iconst X dJ6_numberOfTrailingZeros_0f7a4_76 77 rfl ?_
            refine v_iushrS 1 (w := z / 16 / 4 / 2) X (by omega) (by omega) (by decide) (by omega) dJ6_numberOfTrailingZeros_0f7a4_77 78 rfl ?_
            refine v_iadd X dJ6_numberOfTrailingZeros_0f7a4_78 79 rfl ?_
            subst hQ; exact v_iret0 X hr hlk dJ6_numberOfTrailingZeros_0f7a4_79 (by omega)
      · skip
        exfalso; omega
    · skip
      exfalso; omega
  · have k3 := k1 c_1
    refine v_iload_n X dJ6_numberOfTrailingZeros_0f7a4_12 13 rfl 0 rfl ?_
    refine V_S (st' := [.int (zI ((0 : Nat) : Int))]) (by rw [show z = ((0 : Nat) : Int) by omega]) ?_
    refine v_bipush X dJ6_numberOfTrailingZeros_0f7a4_13 15 rfl rfl ?_
    refine v_iand8 (a := 0) (b := 32) X (by decide) (by decide) dJ6_numberOfTrailingZeros_0f7a4_15 16 rfl ?_
    subst hQ; exact v_iret0 X hr hlk dJ6_numberOfTrailingZeros_0f7a4_16 (by rw [k3]; rfl)
set_option maxRecDepth 100000 in
theorem tz_low : ∀ a : Fin 256, ∀ w : Fin 8, (a : Nat).testBit w = true → (tzZ a = ((w : Nat) : Int) ↔ (a : Nat) &&& (2 ^ (w : Nat) - 1) = 0) := by decide +kernel
