/-! sets of witnesses as numbers below 256 -/
set_option maxRecDepth 100000 in
theorem or_k : ∀ a b : Fin 256, zI ((a : Nat) : Int) ||| zI ((b : Nat) : Int) = zI ((((a : Nat) ||| (b : Nat) : Nat)) : Int) := by decide +kernel
set_option maxRecDepth 100000 in
theorem and_k : ∀ a b : Fin 256, zI ((a : Nat) : Int) &&& zI ((b : Nat) : Int) = zI ((((a : Nat) &&& (b : Nat) : Nat)) : Int) := by decide +kernel
set_option maxRecDepth 100000 in
theorem shl_k : ∀ w : Fin 8, zI 1 <<< (zI ((w : Nat) : Int) &&& 31) = zI (((2 ^ (w : Nat) : Nat)) : Int) := by decide +kernel
set_option maxRecDepth 100000 in
theorem shr_k : ∀ a : Fin 256, ∀ w : Fin 8, zI ((a : Nat) : Int) >>> (zI ((w : Nat) : Int) &&& 31) = zI ((((a : Nat) >>> (w : Nat) : Nat)) : Int) := by decide +kernel
theorem pow8 {w : Nat} (h : w < 8) : 2 ^ w < 256 := by
  have : 2 ^ w ≤ 2 ^ 7 := Nat.pow_le_pow_right (by decide) (by omega)
  omega
theorem or8 {a b : Nat} (ha : a < 256) (hb : b < 256) : a ||| b < 256 := Nat.or_lt_two_pow (n := 8) ha hb
theorem and8 {a b : Nat} (ha : a < 256) : a &&& b < 256 := Nat.lt_of_le_of_lt Nat.and_le_left ha
section BITR
variable {p : Program} {l : Launch} {e : Env} {R : Room} {s : State} {m : MethodId} {args : Array Value} {below : List Frame} {meth : Method} {c : Code} {Q : State → Prop} {nL : Nat} {H : Heap} {locs : List Loc} {k n : Nat} {pc : Nat} {L L' : List (Nat × Value)} {st : List Value} {cc : ByteArray} {own : String} {E : Nat → Nat → Nat}
theorem v_ior8 {a b : Nat} (X : CF p m c cc nL s args own) (ha : a < 256) (hb : b < 256) (hdg : decode cc pc = .ok (.ior, 1)) (pc' : Nat) (hp : pc + 1 = pc') (kk : V p l e R s m args below meth c Q nL H locs k n pc' L (.int (zI ((a ||| b : Nat) : Int)) :: st)) : V p l e R s m args below meth c Q nL H locs k n pc L (.int (zI ((b : Nat) : Int)) :: .int (zI ((a : Nat) : Int)) :: st) := by
  subst hp
  exact fun ls hl => lv_ior X.1 X.2.1 hdg (by rw [or_k ⟨a, ha⟩ ⟨b, hb⟩]; exact kk ls hl)
theorem v_iand8 {a b : Nat} (X : CF p m c cc nL s args own) (ha : a < 256) (hb : b < 256) (hdg : decode cc pc = .ok (.iand, 1)) (pc' : Nat) (hp : pc + 1 = pc') (kk : V p l e R s m args below meth c Q nL H locs k n pc' L (.int (zI ((a &&& b : Nat) : Int)) :: st)) : V p l e R s m args below meth c Q nL H locs k n pc L (.int (zI ((b : Nat) : Int)) :: .int (zI ((a : Nat) : Int)) :: st) := by
  subst hp
  exact fun ls hl => lv_iand X.1 X.2.1 hdg (by rw [and_k ⟨a, ha⟩ ⟨b, hb⟩]; exact kk ls hl)
theorem v_ishl8 {w : Int} (X : CF p m c cc nL s args own) (h0 : 0 ≤ w) (h1 : w < 8) (hdg : decode cc pc = .ok (.ishl, 1)) (pc' : Nat) (hp : pc + 1 = pc') (kk : V p l e R s m args below meth c Q nL H locs k n pc' L (.int (zI ((2 ^ w.toNat : Nat) : Int)) :: st)) : V p l e R s m args below meth c Q nL H locs k n pc L (.int (zI w) :: .int (zI 1) :: st) := by
  subst hp
  have e := shl_k ⟨w.toNat, by omega⟩
  dsimp only at e
  rw [Int.toNat_of_nonneg h0] at e
  exact fun ls hl => lv_ishl X.1 X.2.1 hdg (by rw [e]; exact kk ls hl)
theorem v_ishr8 {a : Nat} {w : Int} (X : CF p m c cc nL s args own) (ha : a < 256) (h0 : 0 ≤ w) (h1 : w < 8) (hdg : decode cc pc = .ok (.ishr, 1)) (pc' : Nat) (hp : pc + 1 = pc') (kk : V p l e R s m args below meth c Q nL H locs k n pc' L (.int (zI ((a >>> w.toNat : Nat) : Int)) :: st)) : V p l e R s m args below meth c Q nL H locs k n pc L (.int (zI w) :: .int (zI ((a : Nat) : Int)) :: st) := by
  subst hp
  have e := shr_k ⟨a, ha⟩ ⟨w.toNat, by omega⟩
  dsimp only at e
  rw [Int.toNat_of_nonneg h0] at e
  exact fun ls hl => lv_ishr X.1 X.2.1 hdg (by rw [e]; exact kk ls hl)
end BITR
def hrS (co : Nat → Int → Int) (k : Int) : Nat → Nat
  | 0 => 0
  | n + 1 => hrS co k n ||| 2 ^ (co 7 (k * 6 + (n : Int))).toNat
def psS (co : Nat → Int → Int) (s : Nat) : Nat → Nat
  | 0 => s
  | k + 1 => psS co s k ||| (if psS co s k &&& hrS co (k : Int) (co 6 (k : Int)).toNat = 0 then 0 else hrS co (k : Int) (co 6 (k : Int)).toNat)
def gpS (co : Nat → Int → Int) (w : Nat) : Nat → Nat
  | 0 => 2 ^ w
  | r + 1 => psS co (gpS co w r) (co 0 0).toNat
theorem hrS_lt {co : Nat → Int → Int} (hO : OkC co) (k : Int) : ∀ n, hrS co k n < 256
  | 0 => by unfold hrS; decide
  | n + 1 => by
    have := hO.b7 (k * 6 + (n : Int))
    exact or8 (hrS_lt hO k n) (pow8 (by omega))
theorem psS_lt {co : Nat → Int → Int} (hO : OkC co) {s : Nat} (hs : s < 256) : ∀ k, psS co s k < 256
  | 0 => hs
  | k + 1 => by
    refine or8 (psS_lt hO hs k) ?_
    split
    · decide
    · exact hrS_lt hO _ _
theorem gpS_lt {co : Nat → Int → Int} (hO : OkC co) {w : Nat} (hw : w < 8) : ∀ r, gpS co w r < 256
  | 0 => pow8 hw
  | r + 1 => psS_lt hO (gpS_lt hO hw r) _
def m0 : Nat → Int → Int := fun r => if r = 0 then updZ (updZ (fun _ => 0) 11 (-1)) 12 (-1) else fun _ => 0
set_option maxHeartbeats 4000000 in
set_option maxRecDepth 20000 in
theorem c_X10_groupOf (l : Launch) (E : Nat → Nat → Nat) (b : Nat) (mo : Nat → Int → Int) (co : Nat → Int → Int) (w : Int) (hO : OkC co) (hR : RelC co (mo 1)) (hI : TsI co) (w0 : 0 ≤ w) (w1 : w < 8) : Rd l yX10_groupOf cX10_groupOf 7 (some .int) 1 E [.ref b, .int (zI w)] (modelW E b mo) (some (.int (zI ((gpS co (Int.toNat w) 8 : Nat) : Int)))) := by
  refine Rd.start (own := RX10) rfl (by decide +kernel) (Nat.le_of_ble_eq_true rfl) ?_
  intro p e s m below meth cd args Q hQ X hr hlk hC hP
  have h_mo := hP
  have hb0 := hO.b0
  have hbw := hO.bw
  have hr0 := hR.s0
  have hr1 := hR.s1
  refine v_iconst X dX10_groupOf_0 1 rfl ?_
  refine v_iload_n X dX10_groupOf_1 2 rfl 1 rfl ?_
  refine v_ishl8 X (by omega) (by omega) dX10_groupOf_2 3 rfl ?_
  refine v_istore_n X dX10_groupOf_3 4 rfl rfl (by decide) (L' := [(2, .int (zI ((2 ^ Int.toNat w : Nat) : Int))), (0, .ref b), (1, .int (zI w))]) rfl ?_
  refine v_iconst X dX10_groupOf_4 5 rfl ?_
  refine v_istore_n X dX10_groupOf_5 6 rfl rfl (by decide) (L' := [(3, .int (zI 0)), (2, .int (zI ((2 ^ Int.toNat w : Nat) : Int))), (0, .ref b), (1, .int (zI w))]) rfl ?_
  refine V_L (L' := [(3, .int (zI 0)), (2, .int (zI ((gpS co (Int.toNat w) 0 : Nat) : Int))), (0, .ref b), (1, .int (zI w))]) (LC (vz (by rfl)) (LC (vz (by rfl)) (LC rfl (LC rfl rfl)))) ?_
  refine up_loop 8 (P := fun (i : Nat) => V p l e (rmL 1 0 0) s m args below meth cd Q 7 s.heap [] 0 0 6 [(3, .int (zI (i : Int))), (2, .int (zI ((gpS co (Int.toNat w) i : Nat) : Int))), (0, .ref b), (1, .int (zI w))] []) (fun i hi_i ih_i => ?_)
  refine v_iload_n X dX10_groupOf_6 7 rfl 0 rfl ?_
  refine v_bipush X dX10_groupOf_7 9 rfl rfl ?_
  refine v_icmp_ge X (by omega) (by omega) dX10_groupOf_9 12 94 rfl (by decide) (fun c_1 => ?_) (fun c_1 => ?_)
  · skip
    refine v_iload_n X dX10_groupOf_94 95 rfl 1 rfl ?_
    subst hQ; exact v_iret0 X hr hlk dX10_groupOf_95 (by rw [show i = 8 by omega])
  · skip
    refine v_iconst X dX10_groupOf_12 13 rfl ?_
    refine v_istore X dX10_groupOf_13 15 rfl (by decide) (L' := [(4, .int (zI 0)), (3, .int (zI (i : Int))), (2, .int (zI ((gpS co (Int.toNat w) i : Nat) : Int))), (0, .ref b), (1, .int (zI w))]) rfl ?_
    refine v_locals [0, 2, 1, 3, 4] (L' := [(4, .int (zI 0)), (2, .int (zI ((gpS co (Int.toNat w) i : Nat) : Int))), (3, .int (zI (i : Int))), (0, .ref b), (1, .int (zI w))]) rfl ?_
    refine V_L (L' := [(4, .int (zI 0)), (2, .int (zI ((psS co (gpS co (Int.toNat w) i) 0 : Nat) : Int))), (3, .int (zI (i : Int))), (0, .ref b), (1, .int (zI w))]) (LC (vz (by rfl)) (LC (vz (by rfl)) (LC rfl (LC rfl (LC rfl rfl))))) ?_
    refine up_loop ((co 0 0).toNat) (P := fun (j : Nat) => V p l e (rmL 1 0 0) s m args below meth cd Q 7 s.heap [] 0 0 15 [(4, .int (zI (j : Int))), (2, .int (zI ((psS co (gpS co (Int.toNat w) i) j : Nat) : Int))), (3, .int (zI (i : Int))), (0, .ref b), (1, .int (zI w))] []) (fun j hi_j ih_j => ?_)
    refine v_iload X dX10_groupOf_15 17 rfl 0 rfl ?_
    refine v_aload_n X dX10_groupOf_17 18 rfl 3 rfl ?_
    refine v_getf X hC h_mo inX10 0 rfl rfl 1 (by decide) kf_X10_9 (fun _ h => h) rfl dX10_groupOf_18 21 rfl ?_
    refine v_iconst X dX10_groupOf_21 22 rfl ?_
    refine v_iald X hC h_mo 1 rfl (by omega) (by omega) (by omega) dX10_groupOf_22 23 rfl ?_
    show V p l e (rmL 1 0 0) s m args below meth cd Q 7 s.heap [] 0 0 23 [(4, .int (zI (j : Int))), (2, .int (zI ((psS co (gpS co (Int.toNat w) i) j : Nat) : Int))), (3, .int (zI (i : Int))), (0, .ref b), (1, .int (zI w))] [.int (zI (mo 1 0)), .int (zI (j : Int))]
    have hb_3 := hR.s0
    refine v_icmp_ge X (by omega) (by omega) dX10_groupOf_23 26 88 rfl (by decide) (fun c_2 => ?_) (fun c_2 => ?_)
    · skip
      refine v_iinc X dX10_groupOf_88 91 rfl 2 rfl (by decide) (L' := [(3, .int (zI ((i : Int) + 1))), (4, .int (zI (j : Int))), (2, .int (zI ((psS co (gpS co (Int.toNat w) i) j : Nat) : Int))), (0, .ref b), (1, .int (zI w))]) rfl ?_
      refine v_goto X dX10_groupOf_91 6 (by decide) ?_
      refine v_locals [0, 2, 3, 4] (L' := [(3, .int (zI ((i : Int) + 1))), (2, .int (zI ((psS co (gpS co (Int.toNat w) i) j : Nat) : Int))), (0, .ref b), (1, .int (zI w))]) rfl ?_
      exact V_L (L' := [(3, .int (zI ((i + 1 : Nat) : Int))), (2, .int (zI ((gpS co (Int.toNat w) (i + 1) : Nat) : Int))), (0, .ref b), (1, .int (zI w))]) (LC (vz (by omega)) (LC (vz (by rw [show gpS co (Int.toNat w) (i + 1) = psS co (gpS co (Int.toNat w) i) (co 0 0).toNat from rfl, show j = (co 0 0).toNat by omega])) (LC rfl (LC rfl rfl)))) (ih_i (by omega))
    · skip
      have hb6 := hO.b6 (j : Int)
      refine v_iconst X dX10_groupOf_26 27 rfl ?_
      refine v_istore X dX10_groupOf_27 29 rfl (by decide) (L' := [(5, .int (zI 0)), (4, .int (zI (j : Int))), (2, .int (zI ((psS co (gpS co (Int.toNat w) i) j : Nat) : Int))), (3, .int (zI (i : Int))), (0, .ref b), (1, .int (zI w))]) rfl ?_
      refine v_iconst X dX10_groupOf_29 30 rfl ?_
      refine v_istore X dX10_groupOf_30 32 rfl (by decide) (L' := [(6, .int (zI 0)), (5, .int (zI 0)), (4, .int (zI (j : Int))), (2, .int (zI ((psS co (gpS co (Int.toNat w) i) j : Nat) : Int))), (3, .int (zI (i : Int))), (0, .ref b), (1, .int (zI w))]) rfl ?_
      refine V_L (L' := [(6, .int (zI 0)), (5, .int (zI ((hrS co (j : Int) 0 : Nat) : Int))), (4, .int (zI (j : Int))), (2, .int (zI ((psS co (gpS co (Int.toNat w) i) j : Nat) : Int))), (3, .int (zI (i : Int))), (0, .ref b), (1, .int (zI w))]) (LC (vz (by rfl)) (LC (vz (by rfl)) (LC rfl (LC rfl (LC rfl (LC rfl (LC rfl rfl))))))) ?_
      refine up_loop ((co 6 (j : Int)).toNat) (P := fun (q : Nat) => V p l e (rmL 1 0 0) s m args below meth cd Q 7 s.heap [] 0 0 32 [(6, .int (zI (q : Int))), (5, .int (zI ((hrS co (j : Int) q : Nat) : Int))), (4, .int (zI (j : Int))), (2, .int (zI ((psS co (gpS co (Int.toNat w) i) j : Nat) : Int))), (3, .int (zI (i : Int))), (0, .ref b), (1, .int (zI w))] []) (fun q hi_q ih_q => ?_)
      refine v_iload X dX10_groupOf_32 34 rfl 0 rfl ?_
      refine v_aload_n X dX10_groupOf_34 35 rfl 5 rfl ?_
      refine v_iload X dX10_groupOf_35 37 rfl 2 rfl ?_
      refine v_iconst X dX10_groupOf_37 38 rfl ?_
      have hb_4 := hO.b0
      refine v_rdV X hC h_mo (c_X10_c_5 l E b mo co (j : Int) hO hR (by omega) (by omega)) kvX10_c kiX10_c kl_X10_47 rfl rfl (As := [.int (zI (j : Int)), .int (zI 5)]) rfl rfl rfl dX10_groupOf_38 41 rfl ?_
      show V p l e (rmL 1 0 0) s m args below meth cd Q 7 s.heap [] 0 0 41 [(6, .int (zI (q : Int))), (5, .int (zI ((hrS co (j : Int) q : Nat) : Int))), (4, .int (zI (j : Int))), (2, .int (zI ((psS co (gpS co (Int.toNat w) i) j : Nat) : Int))), (3, .int (zI (i : Int))), (0, .ref b), (1, .int (zI w))] [.int (zI (co 6 (j : Int))), .int (zI (q : Int))]
      have hb_5 := hO.b6 (j : Int)
      refine v_icmp_ge X (by omega) (by omega) dX10_groupOf_41 44 66 rfl (by decide) (fun c_6 => ?_) (fun c_6 => ?_)
      · skip
        refine V_L (L' := [(6, .int (zI (q : Int))), (5, .int (zI ((hrS co (j : Int) (co 6 (j : Int)).toNat : Nat) : Int))), (4, .int (zI (j : Int))), (2, .int (zI ((psS co (gpS co (Int.toNat w) i) j : Nat) : Int))), (3, .int (zI (i : Int))), (0, .ref b), (1, .int (zI w))]) (LC rfl (LC (vz (by rw [show q = (co 6 (j : Int)).toNat by omega])) (LC rfl (LC rfl (LC rfl (LC rfl (LC rfl rfl))))))) ?_
        refine v_iload_n X dX10_groupOf_66 67 rfl 3 rfl ?_
        refine v_iload_n X dX10_groupOf_67 68 rfl 3 rfl ?_
        refine v_iload X dX10_groupOf_68 70 rfl 1 rfl ?_
        refine v_iand8 (a := psS co (gpS co (Int.toNat w) i) j) (b := hrS co (j : Int) (co 6 (j : Int)).toNat) X (psS_lt hO (gpS_lt hO (by omega) _) _) (hrS_lt hO _ _) dX10_groupOf_70 71 rfl ?_
        have hand := and8 (a := psS co (gpS co (Int.toNat w) i) j) (b := hrS co (j : Int) (co 6 (j : Int)).toNat) (psS_lt hO (gpS_lt hO (by omega) _) _)
        refine v_if_eq X (by omega) dX10_groupOf_71 74 79 rfl (by decide) (fun c_7 => ?_) (fun c_7 => ?_)
        · skip
          refine v_iconst X dX10_groupOf_79 80 rfl ?_
          refine v_ior8 (a := psS co (gpS co (Int.toNat w) i) j) (b := 0) X (psS_lt hO (gpS_lt hO (by omega) _) _) (by decide) dX10_groupOf_80 81 rfl ?_
          refine v_istore_n X dX10_groupOf_81 82 rfl rfl (by decide) (L' := [(2, .int (zI (((psS co (gpS co (Int.toNat w) i) j) ||| 0 : Nat) : Int))), (6, .int (zI (q : Int))), (5, .int (zI ((hrS co (j : Int) (co 6 (j : Int)).toNat : Nat) : Int))), (4, .int (zI (j : Int))), (3, .int (zI (i : Int))), (0, .ref b), (1, .int (zI w))]) rfl ?_
          refine v_iinc X dX10_groupOf_82 85 rfl 3 rfl (by decide) (L' := [(4, .int (zI ((j : Int) + 1))), (2, .int (zI (((psS co (gpS co (Int.toNat w) i) j) ||| 0 : Nat) : Int))), (6, .int (zI (q : Int))), (5, .int (zI ((hrS co (j : Int) (co 6 (j : Int)).toNat : Nat) : Int))), (3, .int (zI (i : Int))), (0, .ref b), (1, .int (zI w))]) rfl ?_
          refine v_goto X dX10_groupOf_85 15 (by decide) ?_
          refine v_locals [0, 1, 4, 5, 6] (L' := [(4, .int (zI ((j : Int) + 1))), (2, .int (zI (((psS co (gpS co (Int.toNat w) i) j) ||| 0 : Nat) : Int))), (3, .int (zI (i : Int))), (0, .ref b), (1, .int (zI w))]) rfl ?_
          exact V_L (L' := [(4, .int (zI ((j + 1 : Nat) : Int))), (2, .int (zI ((psS co (gpS co (Int.toNat w) i) (j + 1) : Nat) : Int))), (3, .int (zI (i : Int))), (0, .ref b), (1, .int (zI w))]) (LC (vz (by omega)) (LC (vz (by rw [show psS co (gpS co (Int.toNat w) i) (j + 1) = psS co (gpS co (Int.toNat w) i) j ||| (if psS co (gpS co (Int.toNat w) i) j &&& hrS co (j : Int) (co 6 (j : Int)).toNat = 0 then 0 else hrS co (j : Int) (co 6 (j : Int)).toNat) from rfl]; first | (rw [if_pos (by omega)]; done) | (rw [if_neg (by omega)]; done))) (LC rfl (LC rfl (LC rfl rfl))))) (ih_j (by omega))
        · skip
          refine v_iload X dX10_groupOf_74 76 rfl 1 rfl ?_
          refine v_goto X dX10_groupOf_76 80 (by decide) ?_
          refine v_ior8 (a := psS co (gpS co (Int.toNat w) i) j) (b := hrS co (j : Int) (co 6 (j : Int)).toNat) X (psS_lt hO (gpS_lt hO (by omega) _) _) (hrS_lt hO _ _) dX10_groupOf_80 81 rfl ?_
          refine v_istore_n X dX10_groupOf_81 82 rfl rfl (by decide) (L' := [(2, .int (zI (((psS co (gpS co (Int.toNat w) i) j) ||| (hrS co (j : Int) (co 6 (j : Int)).toNat) : Nat) : Int))), (6, .int (zI (q : Int))), (5, .int (zI ((hrS co (j : Int) (co 6 (j : Int)).toNat : Nat) : Int))), (4, .int (zI (j : Int))), (3, .int (zI (i : Int))), (0, .ref b), (1, .int (zI w))]) rfl ?_
          refine v_iinc X dX10_groupOf_82 85 rfl 3 rfl (by decide) (L' := [(4, .int (zI ((j : Int) + 1))), (2, .int (zI (((psS co (gpS co (Int.toNat w) i) j) ||| (hrS co (j : Int) (co 6 (j : Int)).toNat) : Nat) : Int))), (6, .int (zI (q : Int))), (5, .int (zI ((hrS co (j : Int) (co 6 (j : Int)).toNat : Nat) : Int))), (3, .int (zI (i : Int))), (0, .ref b), (1, .int (zI w))]) rfl ?_
          refine v_goto X dX10_groupOf_85 15 (by decide) ?_
          refine v_locals [0, 1, 4, 5, 6] (L' := [(4, .int (zI ((j : Int) + 1))), (2, .int (zI (((psS co (gpS co (Int.toNat w) i) j) ||| (hrS co (j : Int) (co 6 (j : Int)).toNat) : Nat) : Int))), (3, .int (zI (i : Int))), (0, .ref b), (1, .int (zI w))]) rfl ?_
          exact V_L (L' := [(4, .int (zI ((j + 1 : Nat) : Int))), (2, .int (zI ((psS co (gpS co (Int.toNat w) i) (j + 1) : Nat) : Int))), (3, .int (zI (i : Int))), (0, .ref b), (1, .int (zI w))]) (LC (vz (by omega)) (LC (vz (by rw [show psS co (gpS co (Int.toNat w) i) (j + 1) = psS co (gpS co (Int.toNat w) i) j ||| (if psS co (gpS co (Int.toNat w) i) j &&& hrS co (j : Int) (co 6 (j : Int)).toNat = 0 then 0 else hrS co (j : Int) (co 6 (j : Int)).toNat) from rfl]; first | (rw [if_pos (by omega)]; done) | (rw [if_neg (by omega)]; done))) (LC rfl (LC rfl (LC rfl rfl))))) (ih_j (by omega))
      · skip
        refine v_iload X dX10_groupOf_44 46 rfl 1 rfl ?_
        refine v_iconst X dX10_groupOf_46 47 rfl ?_
        refine v_aload_n X dX10_groupOf_47 48 rfl 5 rfl ?_
        refine v_iload X dX10_groupOf_48 50 rfl 2 rfl ?_
        refine v_iload X dX10_groupOf_50 52 rfl 0 rfl ?_
        refine v_iconst X dX10_groupOf_52 53 rfl ?_
        refine v_rdV X hC h_mo (c_X10_t_0 l E b mo co (j : Int) (q : Int) hO hR (by omega) (by omega) (by omega) (by omega)) kvX10_t kiX10_t kl_X10_51 rfl rfl (As := [.int (zI (j : Int)), .int (zI (q : Int)), .int (zI 0)]) rfl rfl rfl dX10_groupOf_53 56 rfl ?_
        show V p l e (rmL 1 0 0) s m args below meth cd Q 7 s.heap [] 0 0 56 [(6, .int (zI (q : Int))), (5, .int (zI ((hrS co (j : Int) q : Nat) : Int))), (4, .int (zI (j : Int))), (2, .int (zI ((psS co (gpS co (Int.toNat w) i) j : Nat) : Int))), (3, .int (zI (i : Int))), (0, .ref b), (1, .int (zI w))] [.int (zI (co 7 ((j : Int) * 6 + (q : Int)))), .int (zI 1), .int (zI ((hrS co (j : Int) q : Nat) : Int))]
        have hb_8 := hO.b7 ((j : Int) * 6 + (q : Int))
        refine v_ishl8 X (by omega) (by omega) dX10_groupOf_56 57 rfl ?_
        refine v_ior8 (a := hrS co (j : Int) q) (b := 2 ^ Int.toNat (co 7 ((j : Int) * 6 + (q : Int)))) X (hrS_lt hO _ _) (pow8 (by omega)) dX10_groupOf_57 58 rfl ?_
        refine v_istore X dX10_groupOf_58 60 rfl (by decide) (L' := [(5, .int (zI (((hrS co (j : Int) q) ||| (2 ^ Int.toNat (co 7 ((j : Int) * 6 + (q : Int)))) : Nat) : Int))), (6, .int (zI (q : Int))), (4, .int (zI (j : Int))), (2, .int (zI ((psS co (gpS co (Int.toNat w) i) j : Nat) : Int))), (3, .int (zI (i : Int))), (0, .ref b), (1, .int (zI w))]) rfl ?_
        refine v_iinc X dX10_groupOf_60 63 rfl 1 rfl (by decide) (L' := [(6, .int (zI ((q : Int) + 1))), (5, .int (zI (((hrS co (j : Int) q) ||| (2 ^ Int.toNat (co 7 ((j : Int) * 6 + (q : Int)))) : Nat) : Int))), (4, .int (zI (j : Int))), (2, .int (zI ((psS co (gpS co (Int.toNat w) i) j : Nat) : Int))), (3, .int (zI (i : Int))), (0, .ref b), (1, .int (zI w))]) rfl ?_
        refine v_goto X dX10_groupOf_63 32 (by decide) ?_
        exact V_L (L' := [(6, .int (zI ((q + 1 : Nat) : Int))), (5, .int (zI ((hrS co (j : Int) (q + 1) : Nat) : Int))), (4, .int (zI (j : Int))), (2, .int (zI ((psS co (gpS co (Int.toNat w) i) j : Nat) : Int))), (3, .int (zI (i : Int))), (0, .ref b), (1, .int (zI w))]) (LC (vz (by omega)) (LC (vz (by rfl)) (LC rfl (LC rfl (LC rfl (LC rfl (LC rfl rfl))))))) (ih_q (by omega))
set_option maxHeartbeats 4000000 in
set_option maxRecDepth 20000 in
theorem c_X10_init (l : Launch) (E : Nat → Nat → Nat) (b : Nat) : Mu l yX10_init cX10_init 1 none 1 4 5837 E [(b, 1)] [.ref b] (fun H => PR E b [(b, .inr (12, [.int 0, .null, .int 0, .int 0, .int 0, .null, .int 0, .null, .int 0, .int 0, .int 0, .int 0, .int 0, .int 0, .null, .int 0]))] H ∧ H.size = b + 1) (fun rv H => rv = none ∧ PR E b (modelW E b m0) H ∧ H.size = b + 5) := by
  refine Mu.start (own := RX10) rfl (by decide +kernel) (Nat.le_of_ble_eq_true rfl) ?_
  intro p e s m below meth cd args Q hQ X hr hlk hnm hM hPr
  obtain ⟨h_mo, hz⟩ := hPr
  have hz0 := hz
  refine v_aload_n X dX10_init_0 1 rfl 0 rfl ?_
  refine v_objinit X kl_X10_1 dX10_init_1 4 rfl rfl ?_
  refine v_aload_n X dX10_init_4 5 rfl 0 rfl ?_
  refine v_sipush X dX10_init_5 8 rfl rfl ?_
  refine v_newa X hM (atype := .int) rfl rfl karr_int 0 rfl (N := 5412) rfl (by decide) (by decide) ⟨Nat.le_of_ble_eq_true rfl, Nat.le_of_ble_eq_true rfl⟩ dX10_init_8 10 rfl (k' := 1) (n' := 5412) rfl rfl (fun o H1 ho hz1 hM hF h_new => ?_)
  obtain rfl : o = b + 1 := ho.trans hz
  replace hz : H1.size = b + 2 := hz1
  clear ho hz1
  have h_n_2 : PR E (b + 1) [(b + 1, .inl (E 102 0, 5412, .inl (zA (fun _ => 0))))] H1 := h_new
  replace h_mo := h_mo.kept hF 1 rfl (fun q _ _ h => h.elim)
  refine v_putF X hM h_mo ftX10 0 rfl rfl 1 (by decide) kf_X10_9 (fun _ h => h) rfl hnm rfl rfl rfl (Nat.le_of_ble_eq_true rfl) (Or.inl (fsH (by omega) (by omega))) dX10_init_10 13 rfl (ws' := [(b, .inr (12, [.int 0, .ref (b + 1), .int 0, .int 0, .int 0, .null, .int 0, .null, .int 0, .int 0, .int 0, .int 0, .int 0, .int 0, .null, .int 0]))]) rfl (fun H3 lo3 hzz hM hF h_mo => ?_)
  replace hz : H3.size = b + 2 := hzz.trans hz
  clear hzz
  replace h_n_2 := h_n_2.kept hF 1 rfl (fsd (by omega))
  refine v_aload_n X dX10_init_13 14 rfl 0 rfl ?_
  refine v_bipush X dX10_init_14 16 rfl rfl ?_
  refine v_newa X hM (atype := .char) rfl rfl karr_char 1 rfl (N := 60) rfl (by decide) (by decide) ⟨Nat.le_of_ble_eq_true rfl, Nat.le_of_ble_eq_true rfl⟩ dX10_init_16 18 rfl (k' := 2) (n' := 5472) rfl rfl (fun o H4 ho hz1 hM hF h_new => ?_)
  obtain rfl : o = b + 2 := ho.trans hz
  replace hz : H4.size = b + 3 := hz1
  clear ho hz1
  have h_n_5 : PR E (b + 2) [(b + 2, .inl (E 102 1, 60, .inl (zA (fun _ => 0))))] H4 := h_new
  replace h_mo := h_mo.kept hF 1 rfl (fun q _ _ h => h.elim)
  replace h_n_2 := h_n_2.kept hF 1 rfl (fun q _ _ h => h.elim)
  refine v_putF X hM h_mo ftX10 0 rfl rfl 5 (by decide) kf_X10_13 (fun _ h => h) rfl hnm rfl rfl rfl (Nat.le_of_ble_eq_true rfl) (Or.inl (fsH (by omega) (by omega))) dX10_init_18 21 rfl (ws' := [(b, .inr (12, [.int 0, .ref (b + 1), .int 0, .int 0, .int 0, .ref (b + 2), .int 0, .null, .int 0, .int 0, .int 0, .int 0, .int 0, .int 0, .null, .int 0]))]) rfl (fun H6 lo6 hzz hM hF h_mo => ?_)
  replace hz : H6.size = b + 3 := hzz.trans hz
  clear hzz
  replace h_n_2 := h_n_2.kept hF 1 rfl (fsd (by omega))
  replace h_n_5 := h_n_5.kept hF 1 rfl (fsd (by omega))
  refine v_aload_n X dX10_init_21 22 rfl 0 rfl ?_
  refine v_bipush X dX10_init_22 24 rfl rfl ?_
  refine v_newa X hM (atype := .char) rfl rfl karr_char 1 rfl (N := 60) rfl (by decide) (by decide) ⟨Nat.le_of_ble_eq_true rfl, Nat.le_of_ble_eq_true rfl⟩ dX10_init_24 26 rfl (k' := 3) (n' := 5532) rfl rfl (fun o H7 ho hz1 hM hF h_new => ?_)
  obtain rfl : o = b + 3 := ho.trans hz
  replace hz : H7.size = b + 4 := hz1
  clear ho hz1
  have h_n_8 : PR E (b + 3) [(b + 3, .inl (E 102 1, 60, .inl (zA (fun _ => 0))))] H7 := h_new
  replace h_mo := h_mo.kept hF 1 rfl (fun q _ _ h => h.elim)
  replace h_n_2 := h_n_2.kept hF 1 rfl (fun q _ _ h => h.elim)
  replace h_n_5 := h_n_5.kept hF 1 rfl (fun q _ _ h => h.elim)
  refine v_putF X hM h_mo ftX10 0 rfl rfl 7 (by decide) kf_X10_17 (fun _ h => h) rfl hnm rfl rfl rfl (Nat.le_of_ble_eq_true rfl) (Or.inl (fsH (by omega) (by omega))) dX10_init_26 29 rfl (ws' := [(b, .inr (12, [.int 0, .ref (b + 1), .int 0, .int 0, .int 0, .ref (b + 2), .int 0, .ref (b + 3), .int 0, .int 0, .int 0, .int 0, .int 0, .int 0, .null, .int 0]))]) rfl (fun H9 lo9 hzz hM hF h_mo => ?_)
  replace hz : H9.size = b + 4 := hzz.trans hz
  clear hzz
  replace h_n_2 := h_n_2.kept hF 1 rfl (fsd (by omega))
  replace h_n_5 := h_n_5.kept hF 1 rfl (fsd (by omega))
  replace h_n_8 := h_n_8.kept hF 1 rfl (fsd (by omega))
  refine v_aload_n X dX10_init_29 30 rfl 0 rfl ?_
  refine v_iconst X dX10_init_30 31 rfl ?_
  refine v_putf X hM h_mo ftX10 0 rfl rfl 11 (by decide) kf_X10_20 (fun _ h => h) rfl rfl rfl (Nat.le_of_ble_eq_true rfl) (Or.inl (fsH (by omega) (by omega))) dX10_init_31 34 rfl (ws' := [(b, .inr (12, [.int 0, .ref (b + 1), .int 0, .int 0, .int 0, .ref (b + 2), .int 0, .ref (b + 3), .int 0, .int 0, .int 0, .int (zI (-1)), .int 0, .int 0, .null, .int 0]))]) rfl (fun H10 lo10 hzz hM hF h_mo => ?_)
  replace hz : H10.size = b + 4 := hzz.trans hz
  clear hzz
  replace h_n_2 := h_n_2.kept hF 1 rfl (fsd (by omega))
  replace h_n_5 := h_n_5.kept hF 1 rfl (fsd (by omega))
  replace h_n_8 := h_n_8.kept hF 1 rfl (fsd (by omega))
  refine v_aload_n X dX10_init_34 35 rfl 0 rfl ?_
  refine v_iconst X dX10_init_35 36 rfl ?_
  refine v_putf X hM h_mo ftX10 0 rfl rfl 12 (by decide) kf_X10_24 (fun _ h => h) rfl rfl rfl (Nat.le_of_ble_eq_true rfl) (Or.inl (fsH (by omega) (by omega))) dX10_init_36 39 rfl (ws' := [(b, .inr (12, [.int 0, .ref (b + 1), .int 0, .int 0, .int 0, .ref (b + 2), .int 0, .ref (b + 3), .int 0, .int 0, .int 0, .int (zI (-1)), .int (zI (-1)), .int 0, .null, .int 0]))]) rfl (fun H11 lo11 hzz hM hF h_mo => ?_)
  replace hz : H11.size = b + 4 := hzz.trans hz
  clear hzz
  replace h_n_2 := h_n_2.kept hF 1 rfl (fsd (by omega))
  replace h_n_5 := h_n_5.kept hF 1 rfl (fsd (by omega))
  replace h_n_8 := h_n_8.kept hF 1 rfl (fsd (by omega))
  refine v_aload_n X dX10_init_39 40 rfl 0 rfl ?_
  refine v_sipush X dX10_init_40 43 rfl rfl ?_
  refine v_newa X hM (atype := .int) rfl rfl karr_int 0 rfl (N := 305) rfl (by decide) (by decide) ⟨Nat.le_of_ble_eq_true rfl, Nat.le_of_ble_eq_true rfl⟩ dX10_init_43 45 rfl (k' := 4) (n' := 5837) rfl rfl (fun o H12 ho hz1 hM hF h_new => ?_)
  obtain rfl : o = b + 4 := ho.trans hz
  replace hz : H12.size = b + 5 := hz1
  clear ho hz1
  have h_n_13 : PR E (b + 4) [(b + 4, .inl (E 102 0, 305, .inl (zA (fun _ => 0))))] H12 := h_new
  replace h_mo := h_mo.kept hF 1 rfl (fun q _ _ h => h.elim)
  replace h_n_2 := h_n_2.kept hF 1 rfl (fun q _ _ h => h.elim)
  replace h_n_5 := h_n_5.kept hF 1 rfl (fun q _ _ h => h.elim)
  replace h_n_8 := h_n_8.kept hF 1 rfl (fun q _ _ h => h.elim)
  refine v_putF X hM h_mo ftX10 0 rfl rfl 14 (by decide) kf_X10_27 (fun _ h => h) rfl hnm rfl rfl rfl (Nat.le_of_ble_eq_true rfl) (Or.inl (fsH (by omega) (by omega))) dX10_init_45 48 rfl (ws' := [(b, .inr (12, [.int 0, .ref (b + 1), .int 0, .int 0, .int 0, .ref (b + 2), .int 0, .ref (b + 3), .int 0, .int 0, .int 0, .int (zI (-1)), .int (zI (-1)), .int 0, .ref (b + 4), .int 0]))]) rfl (fun H14 lo14 hzz hM hF h_mo => ?_)
  replace hz : H14.size = b + 5 := hzz.trans hz
  clear hzz
  replace h_n_2 := h_n_2.kept hF 1 rfl (fsd (by omega))
  replace h_n_5 := h_n_5.kept hF 1 rfl (fsd (by omega))
  replace h_n_8 := h_n_8.kept hF 1 rfl (fsd (by omega))
  replace h_n_13 := h_n_13.kept hF 1 rfl (fsd (by omega))
  subst hQ; exact m_vret X hr hlk hM dX10_init_48 rfl ⟨rfl, ((((h_mo.app2 1 rfl rfl h_n_2 rfl).app2 2 rfl rfl h_n_5 rfl).app2 3 rfl rfl h_n_8 rfl).app2 4 rfl rfl h_n_13 rfl), (by omega)⟩
