theorem dk_cnt (co : Nat → Int → Int) : ∀ n : Nat, (dkM co n : Int) = sumZ (fun j => bz (co 3 j = 0)) n
  | 0 => rfl
  | n + 1 => by
    have h := dk_cnt co n
    rw [sumZ_s]
    show ((if co 3 (n : Int) = 0 then dkM co n + 1 else dkM co n : Nat) : Int) = _ + bz (co 3 (n : Int) = 0)
    by_cases q : co 3 (n : Int) = 0
    · rw [if_pos q, bz_t q]
      omega
    · rw [if_neg q, bz_f q]
      omega
section LAWSEG
variable {p : Program} {l : Launch} {e : Env} {s : State} {m : MethodId} {args : Array Value} {below : List Frame} {meth : Method} {cd : Code} {Q : State → Prop} {E : Nat → Nat → Nat} {H : Heap} {lo : List Loc} {kq nq : Nat}
set_option maxHeartbeats 4000000 in
set_option maxRecDepth 20000 in
theorem sg_sen (hl : l.stackTraces = false) (X : CF p m cd cL_law 32 s args RL) {x : Nat} {y : Nat} {v : Nat} {co : Nat → Int → Int} {T : List Int} {t : Int} {sF : Int → Int} {mF : Int → Nat} {qF : Int → Int} {a5 : Int} {a6 : Int} {a7 : Int} {a8 : Int} {a9 : Int} {a10 : Int} (hx : s.heap.size ≤ x) (hD : InvD co) (hO : OkC co) (hU : UqI co) (hy : x + 334 ≤ y) (hvy : v < y ∨ y + 3 ≤ v) (hn0 : co 0 0 ≤ 9) (hn1 : 4 ≤ co 0 1 ∧ co 0 1 ≤ 7) (hsf : ∀ d : Int, 0 ≤ d → d < 6 → sF d = co 12 d) (hM : MS E [] s H lo) (h_cm : PR E x [(x, .inr (11, [.ref (x + 1), .ref (x + 29), .ref (x + 57), .ref (x + 85), .ref (x + 311), .ref (x + 314), .ref (x + 319), .ref (x + 332), .int (zI 0), .int (zI (-1)), .int (zI (-1)), .int (zI 0)]))] H) (h_co : PR E (x + 1) (courtW E (x + 1) co) H) (h_hw : HW E x H) (h_w : RW E x v T H) (h_sn : PR E y [(y, .inl (E 102 0, 6, .inl (zA sF)))] H) (h_mt : PR E (y + 1) [(y + 1, .inl (E 102 0, 8, .inl (zA (nZ mF))))] H) (h_sq : PR E (y + 2) [(y + 2, .inl (E 102 0, 8, .inl (zA qF)))] H) (hk : kq + 0 ≤ 683119) (hn : nq + 0 ≤ 7044570) (kk : ∀ (H1 : Heap) (lo1 : List Loc), MS E [] s H1 lo1 → PR E x [(x, .inr (11, [.ref (x + 1), .ref (x + 29), .ref (x + 57), .ref (x + 85), .ref (x + 311), .ref (x + 314), .ref (x + 319), .ref (x + 332), .int (zI 0), .int (zI (-1)), .int (zI (-1)), .int (zI 0)]))] H1 → PR E (x + 1) (courtW E (x + 1) co) H1 → HW E x H1 → RW E x v T H1 → PR E y [(y, .inl (E 102 0, 6, .inl (zA sF)))] H1 → PR E (y + 1) [(y + 1, .inl (E 102 0, 8, .inl (zA (nZ mF))))] H1 → PR E (y + 2) [(y + 2, .inl (E 102 0, 8, .inl (zA qF)))] H1 → V p l e room_1 s m args below meth cd Q 32 H1 lo1 (kq + 0) (nq + 0) 1536 [(0, .ref (E 107 0)), (1, .ref x), (2, .int (zI t)), (3, .int (zI (co 0 0))), (4, .int (zI (co 0 1))), (5, .int (zI a5)), (6, .int (zI a6)), (7, .int (zI a7)), (8, .int (zI a8)), (9, .int (zI a9)), (10, .int (zI a10)), (11, .ref y), (12, .ref (y + 1)), (13, .ref (y + 2)), (14, .int (zI (amx sF 6)))] []) : V p l e room_1 s m args below meth cd Q 32 H lo kq nq 1465 [(0, .ref (E 107 0)), (1, .ref x), (2, .int (zI t)), (3, .int (zI (co 0 0))), (4, .int (zI (co 0 1))), (5, .int (zI a5)), (6, .int (zI a6)), (7, .int (zI a7)), (8, .int (zI a8)), (9, .int (zI a9)), (10, .int (zI a10)), (11, .ref y), (12, .ref (y + 1)), (13, .ref (y + 2))] [] := by
  have hvl := h_w.lt
  have hb0 := hO.b0
  have hbw := hO.bw
  refine v_iconst X dL_law_1465 1466 rfl ?_
  refine v_istore X dL_law_1466 1468 rfl (by decide) (L' := [(14, .int (zI 0)), (0, .ref (E 107 0)), (1, .ref x), (2, .int (zI t)), (3, .int (zI (co 0 0))), (4, .int (zI (co 0 1))), (5, .int (zI a5)), (6, .int (zI a6)), (7, .int (zI a7)), (8, .int (zI a8)), (9, .int (zI a9)), (10, .int (zI a10)), (11, .ref y), (12, .ref (y + 1)), (13, .ref (y + 2))]) rfl ?_
  refine v_iconst X dL_law_1468 1469 rfl ?_
  refine v_istore X dL_law_1469 1471 rfl (by decide) (L' := [(15, .int (zI 0)), (14, .int (zI 0)), (0, .ref (E 107 0)), (1, .ref x), (2, .int (zI t)), (3, .int (zI (co 0 0))), (4, .int (zI (co 0 1))), (5, .int (zI a5)), (6, .int (zI a6)), (7, .int (zI a7)), (8, .int (zI a8)), (9, .int (zI a9)), (10, .int (zI a10)), (11, .ref y), (12, .ref (y + 1)), (13, .ref (y + 2))]) rfl ?_
  refine v_locals [1, 0, 2, 3, 4, 5, 6, 7, 8, 9, 10, 11, 12, 13, 14, 15] (L' := [(14, .int (zI 0)), (15, .int (zI 0)), (0, .ref (E 107 0)), (1, .ref x), (2, .int (zI t)), (3, .int (zI (co 0 0))), (4, .int (zI (co 0 1))), (5, .int (zI a5)), (6, .int (zI a6)), (7, .int (zI a7)), (8, .int (zI a8)), (9, .int (zI a9)), (10, .int (zI a10)), (11, .ref y), (12, .ref (y + 1)), (13, .ref (y + 2))]) rfl ?_
  refine V_L (L' := [(14, .int (zI (amx sF 0))), (15, .int (zI 0)), (0, .ref (E 107 0)), (1, .ref x), (2, .int (zI t)), (3, .int (zI (co 0 0))), (4, .int (zI (co 0 1))), (5, .int (zI a5)), (6, .int (zI a6)), (7, .int (zI a7)), (8, .int (zI a8)), (9, .int (zI a9)), (10, .int (zI a10)), (11, .ref y), (12, .ref (y + 1)), (13, .ref (y + 2))]) (LC (vz (by rfl)) (LC rfl (LC rfl (LC rfl (LC rfl (LC rfl (LC rfl (LC rfl (LC rfl (LC rfl (LC rfl (LC rfl (LC rfl (LC rfl (LC rfl (LC rfl rfl)))))))))))))))) ?_
  refine up_loop 6 (P := fun (i : Nat) => ∀ (H : Heap) (lo : List Loc), MS E [] s H lo → PR E x [(x, .inr (11, [.ref (x + 1), .ref (x + 29), .ref (x + 57), .ref (x + 85), .ref (x + 311), .ref (x + 314), .ref (x + 319), .ref (x + 332), .int (zI 0), .int (zI (-1)), .int (zI (-1)), .int (zI 0)]))] H → PR E (x + 1) (courtW E (x + 1) co) H → HW E x H → RW E x v T H → PR E y [(y, .inl (E 102 0, 6, .inl (zA sF)))] H → PR E (y + 1) [(y + 1, .inl (E 102 0, 8, .inl (zA (nZ mF))))] H → PR E (y + 2) [(y + 2, .inl (E 102 0, 8, .inl (zA qF)))] H → V p l e room_1 s m args below meth cd Q 32 H lo kq nq 1471 [(14, .int (zI (amx sF i))), (15, .int (zI (i : Int))), (0, .ref (E 107 0)), (1, .ref x), (2, .int (zI t)), (3, .int (zI (co 0 0))), (4, .int (zI (co 0 1))), (5, .int (zI a5)), (6, .int (zI a6)), (7, .int (zI a7)), (8, .int (zI a8)), (9, .int (zI a9)), (10, .int (zI a10)), (11, .ref y), (12, .ref (y + 1)), (13, .ref (y + 2))] []) (fun i hi_i ih_i H1 lo1 hM h_cm h_co h_hw h_w h_sn h_mt h_sq => ?_) _ _ hM h_cm h_co h_hw h_w h_sn h_mt h_sq
  refine v_iload X dL_law_1471 1473 rfl 1 rfl ?_
  refine v_bipush X dL_law_1473 1475 rfl rfl ?_
  refine v_icmp_ge X (by omega) (by omega) dL_law_1475 1478 1536 rfl (by decide) (fun c_2 => ?_) (fun c_2 => ?_)
  · skip
    refine v_widen (k' := kq + 0) (n' := nq + 0) (by omega) (by omega) ?_
    refine v_locals [2, 3, 4, 5, 6, 7, 8, 9, 10, 11, 12, 13, 14, 15, 0] (L' := [(0, .ref (E 107 0)), (1, .ref x), (2, .int (zI t)), (3, .int (zI (co 0 0))), (4, .int (zI (co 0 1))), (5, .int (zI a5)), (6, .int (zI a6)), (7, .int (zI a7)), (8, .int (zI a8)), (9, .int (zI a9)), (10, .int (zI a10)), (11, .ref y), (12, .ref (y + 1)), (13, .ref (y + 2)), (14, .int (zI (amx sF i)))]) rfl ?_
    refine V_L (L' := [(0, .ref (E 107 0)), (1, .ref x), (2, .int (zI t)), (3, .int (zI (co 0 0))), (4, .int (zI (co 0 1))), (5, .int (zI a5)), (6, .int (zI a6)), (7, .int (zI a7)), (8, .int (zI a8)), (9, .int (zI a9)), (10, .int (zI a10)), (11, .ref y), (12, .ref (y + 1)), (13, .ref (y + 2)), (14, .int (zI (amx sF 6)))]) (LC rfl (LC rfl (LC rfl (LC rfl (LC rfl (LC rfl (LC rfl (LC rfl (LC rfl (LC rfl (LC rfl (LC rfl (LC rfl (LC rfl (LC (vz (by rw [show i = 6 by omega])) rfl))))))))))))))) ?_
    exact kk _ _ hM h_cm h_co h_hw h_w h_sn h_mt h_sq
  · skip
    have hxb := amx_b sF i
    have hs1 := hsf (i : Int) (by omega) (by omega)
    have hs2 := hsf (amx sF i) (by omega) (by omega)
    have hb12 := hO.b12 (i : Int)
    have hb12x := hO.b12 (amx sF i)
    have hsn : co 12 (i : Int) = sumZ (fun j => if co 1 j = (i : Int) ∧ ¬ co 4 j = 0 then co 2 j + 1 else 0) (co 0 0).toNat := hD.inv.sn (i : Int) (by omega) (by omega)
    suffices hJ1478 : ∀ z9 : Int, z9 = (amx sF (i + 1)) → V p l e room_1 s m args below meth cd Q 32 H1 lo1 kq nq 1498 [(14, .int (zI (amx sF i))), (15, .int (zI (i : Int))), (0, .ref (E 107 0)), (1, .ref x), (2, .int (zI t)), (3, .int (zI (co 0 0))), (4, .int (zI (co 0 1))), (5, .int (zI a5)), (6, .int (zI a6)), (7, .int (zI a7)), (8, .int (zI a8)), (9, .int (zI a9)), (10, .int (zI a10)), (11, .ref y), (12, .ref (y + 1)), (13, .ref (y + 2))] [.int (zI z9)] by
      refine v_aload X dL_law_1478 1480 rfl 13 rfl ?_
      refine v_iload X dL_law_1480 1482 rfl 1 rfl ?_
      refine v_iald X hM.C h_sn.1 0 rfl (by omega) (by omega) (by omega) dL_law_1482 1483 rfl ?_
      show V p l e room_1 s m args below meth cd Q 32 H1 lo1 kq nq 1483 [(14, .int (zI (amx sF i))), (15, .int (zI (i : Int))), (0, .ref (E 107 0)), (1, .ref x), (2, .int (zI t)), (3, .int (zI (co 0 0))), (4, .int (zI (co 0 1))), (5, .int (zI a5)), (6, .int (zI a6)), (7, .int (zI a7)), (8, .int (zI a8)), (9, .int (zI a9)), (10, .int (zI a10)), (11, .ref y), (12, .ref (y + 1)), (13, .ref (y + 2))] [.int (zI (sF (i : Int)))]
      refine v_aload X dL_law_1483 1485 rfl 13 rfl ?_
      refine v_iload X dL_law_1485 1487 rfl 0 rfl ?_
      refine v_iald X hM.C h_sn.1 0 rfl (by omega) (by omega) (by omega) dL_law_1487 1488 rfl ?_
      show V p l e room_1 s m args below meth cd Q 32 H1 lo1 kq nq 1488 [(14, .int (zI (amx sF i))), (15, .int (zI (i : Int))), (0, .ref (E 107 0)), (1, .ref x), (2, .int (zI t)), (3, .int (zI (co 0 0))), (4, .int (zI (co 0 1))), (5, .int (zI a5)), (6, .int (zI a6)), (7, .int (zI a7)), (8, .int (zI a8)), (9, .int (zI a9)), (10, .int (zI a10)), (11, .ref y), (12, .ref (y + 1)), (13, .ref (y + 2))] [.int (zI (sF (amx sF i))), .int (zI (sF (i : Int)))]
      refine v_icmp_le X (by omega) (by omega) dL_law_1488 1491 1496 rfl (by decide) (fun c_3 => ?_) (fun c_3 => ?_)
      · skip
        refine v_iload X dL_law_1496 1498 rfl 0 rfl ?_
        exact hJ1478 _ (by exact (if_neg (by omega)).symm)
      · skip
        refine v_iload X dL_law_1491 1493 rfl 1 rfl ?_
        refine v_goto X dL_law_1493 1498 (by decide) ?_
        exact hJ1478 _ (by exact (if_pos (by omega)).symm)
    intro z9 hz9
    subst hz9
    refine v_istore X dL_law_1498 1500 rfl (by decide) (L' := [(14, .int (zI (amx sF (i + 1)))), (15, .int (zI (i : Int))), (0, .ref (E 107 0)), (1, .ref x), (2, .int (zI t)), (3, .int (zI (co 0 0))), (4, .int (zI (co 0 1))), (5, .int (zI a5)), (6, .int (zI a6)), (7, .int (zI a7)), (8, .int (zI a8)), (9, .int (zI a9)), (10, .int (zI a10)), (11, .ref y), (12, .ref (y + 1)), (13, .ref (y + 2))]) rfl ?_
    refine v_aload_n X dL_law_1500 1501 rfl 3 rfl ?_
    refine v_iload X dL_law_1501 1503 rfl 1 rfl ?_
    refine v_rdV X hM.C (PW.app h_cm.1 h_co.1) (c_X9_sentence l E x co 0 (-1) (-1) 0 (i : Int) hO (by omega) (by omega)) kvX9_sentence kiX9_sentence kl_L_266 rfl rfl (As := [.int (zI (i : Int))]) rfl rfl (rm_law0 rfl (by omega) (by omega)) dL_law_1503 1506 rfl ?_
    show V p l e room_1 s m args below meth cd Q 32 H1 lo1 kq nq 1506 [(14, .int (zI (amx sF (i + 1)))), (15, .int (zI (i : Int))), (0, .ref (E 107 0)), (1, .ref x), (2, .int (zI t)), (3, .int (zI (co 0 0))), (4, .int (zI (co 0 1))), (5, .int (zI a5)), (6, .int (zI a6)), (7, .int (zI a7)), (8, .int (zI a8)), (9, .int (zI a9)), (10, .int (zI a10)), (11, .ref y), (12, .ref (y + 1)), (13, .ref (y + 2))] [.int (zI (co 12 (i : Int)))]
    have hb_4 := hO.b12 (i : Int)
    refine v_aload X dL_law_1506 1508 rfl 13 rfl ?_
    refine v_iload X dL_law_1508 1510 rfl 1 rfl ?_
    refine v_iald X hM.C h_sn.1 0 rfl (by omega) (by omega) (by omega) dL_law_1510 1511 rfl ?_
    show V p l e room_1 s m args below meth cd Q 32 H1 lo1 kq nq 1511 [(14, .int (zI (amx sF (i + 1)))), (15, .int (zI (i : Int))), (0, .ref (E 107 0)), (1, .ref x), (2, .int (zI t)), (3, .int (zI (co 0 0))), (4, .int (zI (co 0 1))), (5, .int (zI a5)), (6, .int (zI a6)), (7, .int (zI a7)), (8, .int (zI a8)), (9, .int (zI a9)), (10, .int (zI a10)), (11, .ref y), (12, .ref (y + 1)), (13, .ref (y + 2))] [.int (zI (sF (i : Int))), .int (zI (co 12 (i : Int)))]
    refine v_icmp_ne X (by omega) (by omega) dL_law_1511 1514 1528 rfl (by decide) (fun c_5 => ?_) (fun c_5 => ?_)
    · skip
      exfalso; exact c_5 hs1.symm
    · skip
      refine v_aload_n X dL_law_1514 1515 rfl 3 rfl ?_
      refine v_iload X dL_law_1515 1517 rfl 1 rfl ?_
      refine v_rdV X hM.C (PW.app h_cm.1 h_co.1) (c_X9_sentenceByCases l E x co 0 (-1) (-1) 0 (i : Int) hO (by omega) (by omega)) kvX9_sentenceByCases kiX9_sentenceByCases kl_L_269 rfl rfl (As := [.int (zI (i : Int))]) rfl rfl (rm_law0 rfl (by omega) (by omega)) dL_law_1517 1520 rfl ?_
      show V p l e room_1 s m args below meth cd Q 32 H1 lo1 kq nq 1520 [(14, .int (zI (amx sF (i + 1)))), (15, .int (zI (i : Int))), (0, .ref (E 107 0)), (1, .ref x), (2, .int (zI t)), (3, .int (zI (co 0 0))), (4, .int (zI (co 0 1))), (5, .int (zI a5)), (6, .int (zI a6)), (7, .int (zI a7)), (8, .int (zI a8)), (9, .int (zI a9)), (10, .int (zI a10)), (11, .ref y), (12, .ref (y + 1)), (13, .ref (y + 2))] [.int (zI (sumZ (fun j => if co 1 j = (i : Int) ∧ ¬ co 4 j = 0 then co 2 j + 1 else 0) (co 0 0).toNat))]
      have hb_6 := hO.b0
      refine v_aload X dL_law_1520 1522 rfl 13 rfl ?_
      refine v_iload X dL_law_1522 1524 rfl 1 rfl ?_
      refine v_iald X hM.C h_sn.1 0 rfl (by omega) (by omega) (by omega) dL_law_1524 1525 rfl ?_
      show V p l e room_1 s m args below meth cd Q 32 H1 lo1 kq nq 1525 [(14, .int (zI (amx sF (i + 1)))), (15, .int (zI (i : Int))), (0, .ref (E 107 0)), (1, .ref x), (2, .int (zI t)), (3, .int (zI (co 0 0))), (4, .int (zI (co 0 1))), (5, .int (zI a5)), (6, .int (zI a6)), (7, .int (zI a7)), (8, .int (zI a8)), (9, .int (zI a9)), (10, .int (zI a10)), (11, .ref y), (12, .ref (y + 1)), (13, .ref (y + 2))] [.int (zI (sF (i : Int))), .int (zI (sumZ (fun j => if co 1 j = (i : Int) ∧ ¬ co 4 j = 0 then co 2 j + 1 else 0) (co 0 0).toNat))]
      refine v_icmp_eq X (by omega) (by omega) dL_law_1525 1528 1530 rfl (by decide) (fun c_7 => ?_) (fun c_7 => ?_)
      · skip
        refine v_iinc X dL_law_1530 1533 rfl 1 rfl (by decide) (L' := [(15, .int (zI ((i : Int) + 1))), (14, .int (zI (amx sF (i + 1)))), (0, .ref (E 107 0)), (1, .ref x), (2, .int (zI t)), (3, .int (zI (co 0 0))), (4, .int (zI (co 0 1))), (5, .int (zI a5)), (6, .int (zI a6)), (7, .int (zI a7)), (8, .int (zI a8)), (9, .int (zI a9)), (10, .int (zI a10)), (11, .ref y), (12, .ref (y + 1)), (13, .ref (y + 2))]) rfl ?_
        refine v_goto X dL_law_1533 1471 (by decide) ?_
        refine v_locals [1, 0, 2, 3, 4, 5, 6, 7, 8, 9, 10, 11, 12, 13, 14, 15] (L' := [(14, .int (zI (amx sF (i + 1)))), (15, .int (zI ((i : Int) + 1))), (0, .ref (E 107 0)), (1, .ref x), (2, .int (zI t)), (3, .int (zI (co 0 0))), (4, .int (zI (co 0 1))), (5, .int (zI a5)), (6, .int (zI a6)), (7, .int (zI a7)), (8, .int (zI a8)), (9, .int (zI a9)), (10, .int (zI a10)), (11, .ref y), (12, .ref (y + 1)), (13, .ref (y + 2))]) rfl ?_
        have hb_8 := hO.bw
        exact V_L (L' := [(14, .int (zI (amx sF (i + 1)))), (15, .int (zI ((i + 1 : Nat) : Int))), (0, .ref (E 107 0)), (1, .ref x), (2, .int (zI t)), (3, .int (zI (co 0 0))), (4, .int (zI (co 0 1))), (5, .int (zI a5)), (6, .int (zI a6)), (7, .int (zI a7)), (8, .int (zI a8)), (9, .int (zI a9)), (10, .int (zI a10)), (11, .ref y), (12, .ref (y + 1)), (13, .ref (y + 2))]) (LC rfl (LC (vz (by omega)) (LC rfl (LC rfl (LC rfl (LC rfl (LC rfl (LC rfl (LC rfl (LC rfl (LC rfl (LC rfl (LC rfl (LC rfl (LC rfl (LC rfl rfl)))))))))))))))) (ih_i (by omega) _ _ hM h_cm h_co h_hw h_w h_sn h_mt h_sq)
      · skip
        exfalso; exact c_7 (hsn.symm.trans hs1.symm)
set_option maxHeartbeats 4000000 in
set_option maxRecDepth 20000 in
theorem sg_end (hl : l.stackTraces = false) (X : CF p m cd cL_law 32 s args RL) {x : Nat} {y : Nat} {v : Nat} {co : Nat → Int → Int} {T : List Int} {t : Int} {sF : Int → Int} {mF : Int → Nat} {qF : Int → Int} (hx : s.heap.size ≤ x) (hD : InvD co) (hO : OkC co) (hU : UqI co) (hy : x + 334 ≤ y) (hvy : v < y ∨ y + 3 ≤ v) (hn0 : co 0 0 ≤ 9) (hn1 : 4 ≤ co 0 1 ∧ co 0 1 ≤ 7) (hsf : ∀ d : Int, 0 ≤ d → d < 6 → sF d = co 12 d) (hdc : DcI co ∧ 0 ≤ co 0 2 ∧ co 0 2 ≤ 200) (hM : MS E [] s H lo) (h_cm : PR E x [(x, .inr (11, [.ref (x + 1), .ref (x + 29), .ref (x + 57), .ref (x + 85), .ref (x + 311), .ref (x + 314), .ref (x + 319), .ref (x + 332), .int (zI 0), .int (zI (-1)), .int (zI (-1)), .int (zI 0)]))] H) (h_co : PR E (x + 1) (courtW E (x + 1) co) H) (h_hw : HW E x H) (h_w : RW E x v T H) (h_sn : PR E y [(y, .inl (E 102 0, 6, .inl (zA sF)))] H) (h_mt : PR E (y + 1) [(y + 1, .inl (E 102 0, 8, .inl (zA (nZ mF))))] H) (h_sq : PR E (y + 2) [(y + 2, .inl (E 102 0, 8, .inl (zA qF)))] H) (hk : kq + 4 ≤ 683119) (hn : nq + 30 ≤ 7044570) (kk : ∀ (H1 : Heap) (lo1 : List Loc), MS E [] s H1 lo1 → PR E x [(x, .inr (11, [.ref (x + 1), .ref (x + 29), .ref (x + 57), .ref (x + 85), .ref (x + 311), .ref (x + 314), .ref (x + 319), .ref (x + 332), .int (zI 0), .int (zI (-1)), .int (zI (-1)), .int (zI 0)]))] H1 → PR E (x + 1) (courtW E (x + 1) co) H1 → HW E x H1 → RW E x v T H1 → PR E y [(y, .inl (E 102 0, 6, .inl (zA sF)))] H1 → PR E (y + 1) [(y + 1, .inl (E 102 0, 8, .inl (zA (nZ mF))))] H1 → PR E (y + 2) [(y + 2, .inl (E 102 0, 8, .inl (zA qF)))] H1 → V p l e room_1 s m args below meth cd Q 32 H1 lo1 (kq + 4) (nq + 30) 1672 [(0, .ref (E 107 0)), (1, .ref x), (2, .int (zI t)), (3, .int (zI (co 0 0))), (4, .int (zI (co 0 1))), (5, .int (zI (sumZ (fun j => bz (co 3 j = 0)) (co 0 0).toNat))), (6, .int (zI (sumZ (fun j => bz (co 3 j = 2)) (co 0 0).toNat))), (7, .int (zI (sumZ (fun j => bz (¬ co 4 j = 0)) (co 0 0).toNat))), (8, .int (zI (sumZ (fun j => co 11 j) (co 0 1).toNat))), (9, .int (zI (fsF co (co 0 0).toNat))), (10, .int (zI (sumZ (fun k => bz (gpS co (Int.toNat k) 8 &&& (2 ^ Int.toNat k - 1) = 0)) (co 0 1).toNat))), (11, .ref y), (12, .ref (y + 1)), (13, .ref (y + 2))] []) : V p l e room_1 s m args below meth cd Q 32 H lo kq nq 1536 [(0, .ref (E 107 0)), (1, .ref x), (2, .int (zI t)), (3, .int (zI (co 0 0))), (4, .int (zI (co 0 1))), (5, .int (zI (sumZ (fun j => bz (co 3 j = 0)) (co 0 0).toNat))), (6, .int (zI (sumZ (fun j => bz (co 3 j = 2)) (co 0 0).toNat))), (7, .int (zI (sumZ (fun j => bz (¬ co 4 j = 0)) (co 0 0).toNat))), (8, .int (zI (sumZ (fun j => co 11 j) (co 0 1).toNat))), (9, .int (zI (fsF co (co 0 0).toNat))), (10, .int (zI (sumZ (fun k => bz (gpS co (Int.toNat k) 8 &&& (2 ^ Int.toNat k - 1) = 0)) (co 0 1).toNat))), (11, .ref y), (12, .ref (y + 1)), (13, .ref (y + 2)), (14, .int (zI (amx sF 6)))] [] := by
  have hvl := h_w.lt
  have hb0 := hO.b0
  have hbw := hO.bw
  have hx1 := amx_b sF 6
  have hx2 := amx_b (co 12) 6
  have hxc := amx_c 6 (fun i a b => (hsf i a (by omega)).symm)
  have hg3 := (gp_inv hD).2.2
  have hgb := cnt_b (fun j => co 13 j = j) (co 0 1).toNat
  have hfb := fs_b co (co 0 0).toNat
  have hnx : nxV co = fsF co (co 0 0).toNat := rfl
  have hob := cnt_b (fun j => co 3 j = 0) (co 0 0).toNat
  have hcb := cnt_b (fun j => co 3 j = 2) (co 0 0).toNat
  have hub := cnt_b (fun j => ¬ co 4 j = 0) (co 0 0).toNat
  have hdk := dk_cnt co (co 0 0).toNat
  have hph := ph_cnt hO (co 0 0).toNat
  have hdc1 : sumZ (fun j => bz (¬ co 3 j = 0)) (co 0 0).toNat ≤ co 0 2 := hdc.1
  have hdc2 := hdc.2
  have h8b := sumZ_b (f := fun j => co 11 j) (lo := 0) (hi := 9) (n := (co 0 1).toNat) (fun j _ _ => by have := hO.b11 j; omega)
  have hdd := dvD_ok (a := sumZ (fun j => co 11 j) (co 0 1).toNat) (b := co 0 1) (by omega) (by omega) (by omega) (by omega)
  refine v_aload_n X dL_law_1536 1537 rfl 1 rfl ?_
  refine v_rdV X hM.C (PW.app h_cm.1 h_co.1) (c_X9_mostSentenced l E x co 0 (-1) (-1) 0 hO) kvX9_mostSentenced kiX9_mostSentenced kl_L_272 rfl rfl (As := []) rfl rfl (rm_law0 rfl (by omega) (by omega)) dL_law_1537 1540 rfl ?_
  show V p l e room_1 s m args below meth cd Q 32 H lo kq nq 1540 [(0, .ref (E 107 0)), (1, .ref x), (2, .int (zI t)), (3, .int (zI (co 0 0))), (4, .int (zI (co 0 1))), (5, .int (zI (sumZ (fun j => bz (co 3 j = 0)) (co 0 0).toNat))), (6, .int (zI (sumZ (fun j => bz (co 3 j = 2)) (co 0 0).toNat))), (7, .int (zI (sumZ (fun j => bz (¬ co 4 j = 0)) (co 0 0).toNat))), (8, .int (zI (sumZ (fun j => co 11 j) (co 0 1).toNat))), (9, .int (zI (fsF co (co 0 0).toNat))), (10, .int (zI (sumZ (fun k => bz (gpS co (Int.toNat k) 8 &&& (2 ^ Int.toNat k - 1) = 0)) (co 0 1).toNat))), (11, .ref y), (12, .ref (y + 1)), (13, .ref (y + 2)), (14, .int (zI (amx sF 6)))] [.int (zI (amx (co 12) 6))]
  refine v_iload X dL_law_1540 1542 rfl 14 rfl ?_
  refine v_icmp_ne X (by omega) (by omega) dL_law_1542 1545 1670 rfl (by decide) (fun c_1 => ?_) (fun c_1 => ?_)
  · skip
    exfalso; exact c_1 hxc
  · skip
    refine v_aload_n X dL_law_1545 1546 rfl 1 rfl ?_
    refine v_rdV X hM.C (PW.app h_cm.1 h_co.1) (c_X9_groupCount l E x co 0 (-1) (-1) 0 hO) kvX9_groupCount kiX9_groupCount kl_L_275 rfl rfl (As := []) rfl rfl (rm_law0 rfl (by omega) (by omega)) dL_law_1546 1549 rfl ?_
    show V p l e room_1 s m args below meth cd Q 32 H lo kq nq 1549 [(0, .ref (E 107 0)), (1, .ref x), (2, .int (zI t)), (3, .int (zI (co 0 0))), (4, .int (zI (co 0 1))), (5, .int (zI (sumZ (fun j => bz (co 3 j = 0)) (co 0 0).toNat))), (6, .int (zI (sumZ (fun j => bz (co 3 j = 2)) (co 0 0).toNat))), (7, .int (zI (sumZ (fun j => bz (¬ co 4 j = 0)) (co 0 0).toNat))), (8, .int (zI (sumZ (fun j => co 11 j) (co 0 1).toNat))), (9, .int (zI (fsF co (co 0 0).toNat))), (10, .int (zI (sumZ (fun k => bz (gpS co (Int.toNat k) 8 &&& (2 ^ Int.toNat k - 1) = 0)) (co 0 1).toNat))), (11, .ref y), (12, .ref (y + 1)), (13, .ref (y + 2)), (14, .int (zI (amx sF 6)))] [.int (zI (sumZ (fun j => bz (co 13 j = j)) (co 0 1).toNat))]
    have hb_2 := hO.bw
    refine v_iload X dL_law_1549 1551 rfl 10 rfl ?_
    refine v_icmp_ne X (by omega) (by omega) dL_law_1551 1554 1670 rfl (by decide) (fun c_3 => ?_) (fun c_3 => ?_)
    · skip
      exfalso; exact c_3 hg3.symm
    · skip
      refine v_aload_n X dL_law_1554 1555 rfl 1 rfl ?_
      refine v_mwS X hM (p_next l hl E x co v T hO) kwL_nextToDecide ksL_nextToDecide kl_L_278 (As := [.ref x]) rfl rfl (rm_lawW rfl (by omega) (by omega)) dL_law_1555 1558 rfl (k' := kq + 1) (n' := nq + 6) rfl rfl (by intro q hq; simp only [Fr, Fs, or_false, false_or] at hq ⊢; omega) ⟨h_cm, h_co, h_w⟩ (fun rv H4 lo4 hM hF hpo => ?_)
      obtain ⟨rfl, hw_0⟩ := hpo
      have h_w : RW E x v T H4 := hw_0
      clear hw_0
      replace h_cm := h_cm.kept hF 1 rfl (by intro q q1 q2 q3; simp only [Fs, or_false] at q3; omega)
      replace h_co := h_co.kept hF 28 rfl (by intro q q1 q2 q3; simp only [Fs, or_false] at q3; omega)
      replace h_hw := h_hw.kept hF (by intro q q1 q2 q3; simp only [Fs, or_false] at q3; omega)
      replace h_sn := h_sn.kept hF 1 rfl (by intro q q1 q2 q3; simp only [Fs, or_false] at q3; omega)
      replace h_mt := h_mt.kept hF 1 rfl (by intro q q1 q2 q3; simp only [Fs, or_false] at q3; omega)
      replace h_sq := h_sq.kept hF 1 rfl (by intro q q1 q2 q3; simp only [Fs, or_false] at q3; omega)
      show V p l e room_1 s m args below meth cd Q 32 H4 lo4 (kq + 1) (nq + 6) 1558 [(0, .ref (E 107 0)), (1, .ref x), (2, .int (zI t)), (3, .int (zI (co 0 0))), (4, .int (zI (co 0 1))), (5, .int (zI (sumZ (fun j => bz (co 3 j = 0)) (co 0 0).toNat))), (6, .int (zI (sumZ (fun j => bz (co 3 j = 2)) (co 0 0).toNat))), (7, .int (zI (sumZ (fun j => bz (¬ co 4 j = 0)) (co 0 0).toNat))), (8, .int (zI (sumZ (fun j => co 11 j) (co 0 1).toNat))), (9, .int (zI (fsF co (co 0 0).toNat))), (10, .int (zI (sumZ (fun k => bz (gpS co (Int.toNat k) 8 &&& (2 ^ Int.toNat k - 1) = 0)) (co 0 1).toNat))), (11, .ref y), (12, .ref (y + 1)), (13, .ref (y + 2)), (14, .int (zI (amx sF 6)))] [.int (zI (nxV co))]
      refine v_iload X dL_law_1558 1560 rfl 9 rfl ?_
      have hb_6 := hO.b0
      refine v_icmp_ne X (by omega) (by omega) dL_law_1560 1563 1670 rfl (by decide) (fun c_5 => ?_) (fun c_5 => ?_)
      · skip
        exfalso; exact c_5 rfl
      · skip
        refine v_aload_n X dL_law_1563 1564 rfl 1 rfl ?_
        refine v_rdV X hM.C (PW.app h_cm.1 h_co.1) (c_X9_docketLength l E x co 0 (-1) (-1) 0 hO) kvX9_docketLength kiX9_docketLength kl_L_106 rfl rfl (As := []) rfl rfl (rm_law0 rfl (by omega) (by omega)) dL_law_1564 1567 rfl ?_
        show V p l e room_1 s m args below meth cd Q 32 H4 lo4 (kq + 1) (nq + 6) 1567 [(0, .ref (E 107 0)), (1, .ref x), (2, .int (zI t)), (3, .int (zI (co 0 0))), (4, .int (zI (co 0 1))), (5, .int (zI (sumZ (fun j => bz (co 3 j = 0)) (co 0 0).toNat))), (6, .int (zI (sumZ (fun j => bz (co 3 j = 2)) (co 0 0).toNat))), (7, .int (zI (sumZ (fun j => bz (¬ co 4 j = 0)) (co 0 0).toNat))), (8, .int (zI (sumZ (fun j => co 11 j) (co 0 1).toNat))), (9, .int (zI (fsF co (co 0 0).toNat))), (10, .int (zI (sumZ (fun k => bz (gpS co (Int.toNat k) 8 &&& (2 ^ Int.toNat k - 1) = 0)) (co 0 1).toNat))), (11, .ref y), (12, .ref (y + 1)), (13, .ref (y + 2)), (14, .int (zI (amx sF 6)))] [.int (zI (sumZ (fun j => bz (co 3 j = 0)) (co 0 0).toNat))]
        refine v_iload X dL_law_1567 1569 rfl 5 rfl ?_
        refine v_icmp_ne X (by omega) (by omega) dL_law_1569 1572 1670 rfl (by decide) (fun c_7 => ?_) (fun c_7 => ?_)
        · skip
          exfalso; exact c_7 rfl
        · skip
          refine v_aload_n X dL_law_1572 1573 rfl 1 rfl ?_
          refine v_iload X dL_law_1573 1575 rfl 5 rfl ?_
          refine v_mwS X hM (p_L_docketAt_t l hl E x co (sumZ (fun j => bz (co 3 j = 0)) (co 0 0).toNat) v T hO (by omega) (by omega)) kwL_docketAt ksL_docketAt kl_L_281 (As := [.ref x, .int (zI (sumZ (fun j => bz (co 3 j = 0)) (co 0 0).toNat))]) rfl rfl (rm_lawW rfl (by omega) (by omega)) dL_law_1575 1578 rfl (k' := kq + 2) (n' := nq + 12) rfl rfl (by intro q hq; simp only [Fr, Fs, or_false, false_or] at hq ⊢; omega) ⟨h_cm, h_co, h_w⟩ (fun rv H8 lo8 hM hF hpo => ?_)
          obtain ⟨rfl, hw_0⟩ := hpo
          have h_w : RW E x v T H8 := hw_0
          clear hw_0
          replace h_cm := h_cm.kept hF 1 rfl (by intro q q1 q2 q3; simp only [Fs, or_false] at q3; omega)
          replace h_co := h_co.kept hF 28 rfl (by intro q q1 q2 q3; simp only [Fs, or_false] at q3; omega)
          replace h_hw := h_hw.kept hF (by intro q q1 q2 q3; simp only [Fs, or_false] at q3; omega)
          replace h_sn := h_sn.kept hF 1 rfl (by intro q q1 q2 q3; simp only [Fs, or_false] at q3; omega)
          replace h_mt := h_mt.kept hF 1 rfl (by intro q q1 q2 q3; simp only [Fs, or_false] at q3; omega)
          replace h_sq := h_sq.kept hF 1 rfl (by intro q q1 q2 q3; simp only [Fs, or_false] at q3; omega)
          show V p l e room_1 s m args below meth cd Q 32 H8 lo8 (kq + 2) (nq + 12) 1578 [(0, .ref (E 107 0)), (1, .ref x), (2, .int (zI t)), (3, .int (zI (co 0 0))), (4, .int (zI (co 0 1))), (5, .int (zI (sumZ (fun j => bz (co 3 j = 0)) (co 0 0).toNat))), (6, .int (zI (sumZ (fun j => bz (co 3 j = 2)) (co 0 0).toNat))), (7, .int (zI (sumZ (fun j => bz (¬ co 4 j = 0)) (co 0 0).toNat))), (8, .int (zI (sumZ (fun j => co 11 j) (co 0 1).toNat))), (9, .int (zI (fsF co (co 0 0).toNat))), (10, .int (zI (sumZ (fun k => bz (gpS co (Int.toNat k) 8 &&& (2 ^ Int.toNat k - 1) = 0)) (co 0 1).toNat))), (11, .ref y), (12, .ref (y + 1)), (13, .ref (y + 2)), (14, .int (zI (amx sF 6)))] [.int (zI (-30000))]
          refine v_sipush X dL_law_1578 1581 rfl rfl ?_
          refine v_icmp_ne X (by omega) (by omega) dL_law_1581 1584 1670 rfl (by decide) (fun c_9 => ?_) (fun c_9 => ?_)
          · skip
            exfalso; omega
          · skip
            refine v_aload_n X dL_law_1584 1585 rfl 1 rfl ?_
            refine v_rdV X hM.C (PW.app h_cm.1 h_co.1) (c_X9_closedCount l E x co 0 (-1) (-1) 0 hO) kvX9_closedCount kiX9_closedCount kl_L_283 rfl rfl (As := []) rfl rfl (rm_law0 rfl (by omega) (by omega)) dL_law_1585 1588 rfl ?_
            show V p l e room_1 s m args below meth cd Q 32 H8 lo8 (kq + 2) (nq + 12) 1588 [(0, .ref (E 107 0)), (1, .ref x), (2, .int (zI t)), (3, .int (zI (co 0 0))), (4, .int (zI (co 0 1))), (5, .int (zI (sumZ (fun j => bz (co 3 j = 0)) (co 0 0).toNat))), (6, .int (zI (sumZ (fun j => bz (co 3 j = 2)) (co 0 0).toNat))), (7, .int (zI (sumZ (fun j => bz (¬ co 4 j = 0)) (co 0 0).toNat))), (8, .int (zI (sumZ (fun j => co 11 j) (co 0 1).toNat))), (9, .int (zI (fsF co (co 0 0).toNat))), (10, .int (zI (sumZ (fun k => bz (gpS co (Int.toNat k) 8 &&& (2 ^ Int.toNat k - 1) = 0)) (co 0 1).toNat))), (11, .ref y), (12, .ref (y + 1)), (13, .ref (y + 2)), (14, .int (zI (amx sF 6)))] [.int (zI (sumZ (fun j => bz (co 3 j = 2)) (co 0 0).toNat))]
            refine v_iload X dL_law_1588 1590 rfl 6 rfl ?_
            refine v_icmp_ne X (by omega) (by omega) dL_law_1590 1593 1670 rfl (by decide) (fun c_10 => ?_) (fun c_10 => ?_)
            · skip
              exfalso; exact c_10 rfl
            · skip
              refine v_aload_n X dL_law_1593 1594 rfl 1 rfl ?_
              refine v_rdV X hM.C (PW.app h_cm.1 h_co.1) (c_X9_guiltyCount l E x co 0 (-1) (-1) 0 hO) kvX9_guiltyCount kiX9_guiltyCount kl_L_286 rfl rfl (As := []) rfl rfl (rm_law0 rfl (by omega) (by omega)) dL_law_1594 1597 rfl ?_
              show V p l e room_1 s m args below meth cd Q 32 H8 lo8 (kq + 2) (nq + 12) 1597 [(0, .ref (E 107 0)), (1, .ref x), (2, .int (zI t)), (3, .int (zI (co 0 0))), (4, .int (zI (co 0 1))), (5, .int (zI (sumZ (fun j => bz (co 3 j = 0)) (co 0 0).toNat))), (6, .int (zI (sumZ (fun j => bz (co 3 j = 2)) (co 0 0).toNat))), (7, .int (zI (sumZ (fun j => bz (¬ co 4 j = 0)) (co 0 0).toNat))), (8, .int (zI (sumZ (fun j => co 11 j) (co 0 1).toNat))), (9, .int (zI (fsF co (co 0 0).toNat))), (10, .int (zI (sumZ (fun k => bz (gpS co (Int.toNat k) 8 &&& (2 ^ Int.toNat k - 1) = 0)) (co 0 1).toNat))), (11, .ref y), (12, .ref (y + 1)), (13, .ref (y + 2)), (14, .int (zI (amx sF 6)))] [.int (zI (sumZ (fun j => bz (¬ co 4 j = 0)) (co 0 0).toNat))]
              refine v_iload X dL_law_1597 1599 rfl 7 rfl ?_
              refine v_icmp_ne X (by omega) (by omega) dL_law_1599 1602 1670 rfl (by decide) (fun c_11 => ?_) (fun c_11 => ?_)
              · skip
                exfalso; exact c_11 rfl
              · skip
                refine v_aload_n X dL_law_1602 1603 rfl 1 rfl ?_
                refine v_rdV X hM.C (PW.app h_cm.1 h_co.1) (c_X9_decisionCount l E x co 0 (-1) (-1) 0 hO) kvX9_decisionCount kiX9_decisionCount kl_L_289 rfl rfl (As := []) rfl rfl (rm_law0 rfl (by omega) (by omega)) dL_law_1603 1606 rfl ?_
                show V p l e room_1 s m args below meth cd Q 32 H8 lo8 (kq + 2) (nq + 12) 1606 [(0, .ref (E 107 0)), (1, .ref x), (2, .int (zI t)), (3, .int (zI (co 0 0))), (4, .int (zI (co 0 1))), (5, .int (zI (sumZ (fun j => bz (co 3 j = 0)) (co 0 0).toNat))), (6, .int (zI (sumZ (fun j => bz (co 3 j = 2)) (co 0 0).toNat))), (7, .int (zI (sumZ (fun j => bz (¬ co 4 j = 0)) (co 0 0).toNat))), (8, .int (zI (sumZ (fun j => co 11 j) (co 0 1).toNat))), (9, .int (zI (fsF co (co 0 0).toNat))), (10, .int (zI (sumZ (fun k => bz (gpS co (Int.toNat k) 8 &&& (2 ^ Int.toNat k - 1) = 0)) (co 0 1).toNat))), (11, .ref y), (12, .ref (y + 1)), (13, .ref (y + 2)), (14, .int (zI (amx sF 6)))] [.int (zI (co 0 2))]
                refine v_iload_n X dL_law_1606 1607 rfl 3 rfl ?_
                refine v_iload X dL_law_1607 1609 rfl 5 rfl ?_
                refine v_isub X dL_law_1609 1610 rfl ?_
                refine v_icmp_lt X (by omega) (by omega) dL_law_1610 1613 1670 rfl (by decide) (fun c_12 => ?_) (fun c_12 => ?_)
                · skip
                  exfalso; omega
                · skip
                  refine v_iload X dL_law_1613 1615 rfl 5 rfl ?_
                  refine v_iload_n X dL_law_1615 1616 rfl 3 rfl ?_
                  refine v_icmp_ge X (by omega) (by omega) dL_law_1616 1619 1636 rfl (by decide) (fun c_13 => ?_) (fun c_13 => ?_)
                  · skip
                    refine v_aload_n X dL_law_1636 1637 rfl 1 rfl ?_
                    refine v_rdV X hM.C (PW.app h_cm.1 h_co.1) (c_X9_meanCredibility l E x co 0 (-1) (-1) 0 hO (by omega)) kvX9_meanCredibility kiX9_meanCredibility kl_L_296 rfl rfl (As := []) rfl rfl (rm_law0 rfl (by omega) (by omega)) dL_law_1637 1640 rfl ?_
                    show V p l e room_1 s m args below meth cd Q 32 H8 lo8 (kq + 2) (nq + 12) 1640 [(0, .ref (E 107 0)), (1, .ref x), (2, .int (zI t)), (3, .int (zI (co 0 0))), (4, .int (zI (co 0 1))), (5, .int (zI (sumZ (fun j => bz (co 3 j = 0)) (co 0 0).toNat))), (6, .int (zI (sumZ (fun j => bz (co 3 j = 2)) (co 0 0).toNat))), (7, .int (zI (sumZ (fun j => bz (¬ co 4 j = 0)) (co 0 0).toNat))), (8, .int (zI (sumZ (fun j => co 11 j) (co 0 1).toNat))), (9, .int (zI (fsF co (co 0 0).toNat))), (10, .int (zI (sumZ (fun k => bz (gpS co (Int.toNat k) 8 &&& (2 ^ Int.toNat k - 1) = 0)) (co 0 1).toNat))), (11, .ref y), (12, .ref (y + 1)), (13, .ref (y + 2)), (14, .int (zI (amx sF 6)))] [.double (dvD (sumZ (fun j => co 11 j) (co 0 1).toNat) (co 0 1))]
                    refine v_iload X dL_law_1640 1642 rfl 8 rfl ?_
                    refine v_i2d X dL_law_1642 1643 rfl ?_
                    refine v_iload X dL_law_1643 1645 rfl 4 rfl ?_
                    refine v_i2d X dL_law_1645 1646 rfl ?_
                    refine v_ddiv X (hdd.1) dL_law_1646 1647 rfl ?_
                    refine V_S (st' := [.double (dvD (sumZ (fun j => co 11 j) (co 0 1).toNat) (co 0 1)), .double (dvD (sumZ (fun j => co 11 j) (co 0 1).toNat) (co 0 1))]) (by rfl) ?_
                    skip
                    refine v_dcmp0 X hdd.2 dL_law_1647 1648 rfl ?_
                    refine v_if_ne X (by omega) dL_law_1648 1651 1670 rfl (by decide) (fun c_14 => ?_) (fun c_14 => ?_)
                    · skip
                      exfalso; omega
                    · skip
                      refine v_aload_n X dL_law_1651 1652 rfl 1 rfl ?_
                      refine v_muV X hM (h_cm.1) (p_isc l E x co v T hD) kvX9_isConsistent kiX9_isConsistent kl_L_300 (q0 := 0) rfl rfl (As := []) rfl rfl (rm_law rfl (by omega) (by omega)) dL_law_1652 1655 rfl (k' := kq + 2) (n' := nq + 12) rfl rfl (by intro q hq; simp only [Fr, Fs, or_false, false_or] at hq ⊢; omega) ⟨h_cm, h_co, h_w⟩ (fun rv H15 lo15 hM hF hpo => ?_)
                      obtain ⟨rfl, hw_0⟩ := hpo
                      have h_w : RW E x v T H15 := hw_0
                      clear hw_0
                      replace h_cm := h_cm.kept hF 1 rfl (by intro q q1 q2 q3; simp only [Fs, or_false] at q3; omega)
                      replace h_co := h_co.kept hF 28 rfl (by intro q q1 q2 q3; simp only [Fs, or_false] at q3; omega)
                      replace h_hw := h_hw.kept hF (by intro q q1 q2 q3; simp only [Fs, or_false] at q3; omega)
                      replace h_sn := h_sn.kept hF 1 rfl (by intro q q1 q2 q3; simp only [Fs, or_false] at q3; omega)
                      replace h_mt := h_mt.kept hF 1 rfl (by intro q q1 q2 q3; simp only [Fs, or_false] at q3; omega)
                      replace h_sq := h_sq.kept hF 1 rfl (by intro q q1 q2 q3; simp only [Fs, or_false] at q3; omega)
                      show V p l e room_1 s m args below meth cd Q 32 H15 lo15 (kq + 2) (nq + 12) 1655 [(0, .ref (E 107 0)), (1, .ref x), (2, .int (zI t)), (3, .int (zI (co 0 0))), (4, .int (zI (co 0 1))), (5, .int (zI (sumZ (fun j => bz (co 3 j = 0)) (co 0 0).toNat))), (6, .int (zI (sumZ (fun j => bz (co 3 j = 2)) (co 0 0).toNat))), (7, .int (zI (sumZ (fun j => bz (¬ co 4 j = 0)) (co 0 0).toNat))), (8, .int (zI (sumZ (fun j => co 11 j) (co 0 1).toNat))), (9, .int (zI (fsF co (co 0 0).toNat))), (10, .int (zI (sumZ (fun k => bz (gpS co (Int.toNat k) 8 &&& (2 ^ Int.toNat k - 1) = 0)) (co 0 1).toNat))), (11, .ref y), (12, .ref (y + 1)), (13, .ref (y + 2)), (14, .int (zI (amx sF 6)))] [.int (zI 1)]
                      refine v_if_eq X (by omega) dL_law_1655 1658 1670 rfl (by decide) (fun c_16 => ?_) (fun c_16 => ?_)
                      · skip
                        exfalso; omega
                      · skip
                        refine v_aload_n X dL_law_1658 1659 rfl 1 rfl ?_
                        refine v_iload X dL_law_1659 1661 rfl 4 rfl ?_
                        refine v_mwS X hM (w_X9_mostCredible_0_t l hl E x co 0 (-1) (-1) 0 (co 0 1) hO (by omega) (by exact rk_no hO)) kwL_mostCredible ksL_mostCredible kl_L_304 (As := [.ref x, .int (zI (co 0 1))]) rfl rfl (rm_lawW rfl (by omega) (by omega)) dL_law_1661 1664 rfl (k' := kq + 3) (n' := nq + 18) rfl rfl (fun q hq => hq.elim) ⟨h_cm, h_co⟩ (fun rv H17 lo17 hM hF hpo => ?_)
                        subst hpo
                        replace h_cm := h_cm.kept hF 1 rfl (fun q _ _ h => h.elim)
                        replace h_co := h_co.kept hF 28 rfl (fun q _ _ h => h.elim)
                        replace h_hw := h_hw.kept hF (fun q _ _ h => h.elim)
                        replace h_w := h_w.kept hF (fun q _ h => h.elim)
                        replace h_sn := h_sn.kept hF 1 rfl (fun q _ _ h => h.elim)
                        replace h_mt := h_mt.kept hF 1 rfl (fun q _ _ h => h.elim)
                        replace h_sq := h_sq.kept hF 1 rfl (fun q _ _ h => h.elim)
                        show V p l e room_1 s m args below meth cd Q 32 H17 lo17 (kq + 3) (nq + 18) 1664 [(0, .ref (E 107 0)), (1, .ref x), (2, .int (zI t)), (3, .int (zI (co 0 0))), (4, .int (zI (co 0 1))), (5, .int (zI (sumZ (fun j => bz (co 3 j = 0)) (co 0 0).toNat))), (6, .int (zI (sumZ (fun j => bz (co 3 j = 2)) (co 0 0).toNat))), (7, .int (zI (sumZ (fun j => bz (¬ co 4 j = 0)) (co 0 0).toNat))), (8, .int (zI (sumZ (fun j => co 11 j) (co 0 1).toNat))), (9, .int (zI (fsF co (co 0 0).toNat))), (10, .int (zI (sumZ (fun k => bz (gpS co (Int.toNat k) 8 &&& (2 ^ Int.toNat k - 1) = 0)) (co 0 1).toNat))), (11, .ref y), (12, .ref (y + 1)), (13, .ref (y + 2)), (14, .int (zI (amx sF 6)))] [.int (zI (-30000))]
                        refine v_sipush X dL_law_1664 1667 rfl rfl ?_
                        refine v_icmp_eq X (by omega) (by omega) dL_law_1667 1670 1672 rfl (by decide) (fun c_18 => ?_) (fun c_18 => ?_)
                        · skip
                          refine v_widen (k' := kq + 4) (n' := nq + 30) (by omega) (by omega) ?_
                          refine v_locals [0, 1, 2, 3, 4, 5, 6, 7, 8, 9, 10, 11, 12, 13] (L' := [(0, .ref (E 107 0)), (1, .ref x), (2, .int (zI t)), (3, .int (zI (co 0 0))), (4, .int (zI (co 0 1))), (5, .int (zI (sumZ (fun j => bz (co 3 j = 0)) (co 0 0).toNat))), (6, .int (zI (sumZ (fun j => bz (co 3 j = 2)) (co 0 0).toNat))), (7, .int (zI (sumZ (fun j => bz (¬ co 4 j = 0)) (co 0 0).toNat))), (8, .int (zI (sumZ (fun j => co 11 j) (co 0 1).toNat))), (9, .int (zI (fsF co (co 0 0).toNat))), (10, .int (zI (sumZ (fun k => bz (gpS co (Int.toNat k) 8 &&& (2 ^ Int.toNat k - 1) = 0)) (co 0 1).toNat))), (11, .ref y), (12, .ref (y + 1)), (13, .ref (y + 2))]) rfl ?_
                          exact kk _ _ hM h_cm h_co h_hw h_w h_sn h_mt h_sq
                        · skip
                          exfalso; omega
                  · skip
                    have hfn := fvD_ok (a := sumZ (fun j => bz (¬ co 4 j = 0)) (co 0 0).toNat) (b := co 0 0 - sumZ (fun j => bz (co 3 j = 0)) (co 0 0).toNat) (by omega) (by omega) (by omega) (by omega)
                    have hfc := fcD_ok (a := sumZ (fun j => bz (¬ co 4 j = 0)) (co 0 0).toNat) (b := co 0 0 - sumZ (fun j => bz (co 3 j = 0)) (co 0 0).toNat) (by omega) (by omega) (by omega) (by omega)
                    refine v_aload_n X dL_law_1619 1620 rfl 1 rfl ?_
                    refine v_rdV X hM.C (PW.app h_cm.1 h_co.1) (c_X9_guiltyShare l E x co 0 (-1) (-1) 0 hO (by omega)) kvX9_guiltyShare kiX9_guiltyShare kl_L_292 rfl rfl (As := []) rfl rfl (rm_law0 rfl (by omega) (by omega)) dL_law_1620 1623 rfl ?_
                    show V p l e room_1 s m args below meth cd Q 32 H8 lo8 (kq + 2) (nq + 12) 1623 [(0, .ref (E 107 0)), (1, .ref x), (2, .int (zI t)), (3, .int (zI (co 0 0))), (4, .int (zI (co 0 1))), (5, .int (zI (sumZ (fun j => bz (co 3 j = 0)) (co 0 0).toNat))), (6, .int (zI (sumZ (fun j => bz (co 3 j = 2)) (co 0 0).toNat))), (7, .int (zI (sumZ (fun j => bz (¬ co 4 j = 0)) (co 0 0).toNat))), (8, .int (zI (sumZ (fun j => co 11 j) (co 0 1).toNat))), (9, .int (zI (fsF co (co 0 0).toNat))), (10, .int (zI (sumZ (fun k => bz (gpS co (Int.toNat k) 8 &&& (2 ^ Int.toNat k - 1) = 0)) (co 0 1).toNat))), (11, .ref y), (12, .ref (y + 1)), (13, .ref (y + 2)), (14, .int (zI (amx sF 6)))] [.float (fvD (sumZ (fun j => bz (¬ co 4 j = 0)) (co 0 0).toNat) (sumZ (fun j => bz (co 3 j = 1)) (co 0 0).toNat + sumZ (fun j => bz (co 3 j = 2)) (co 0 0).toNat))]
                    refine v_iload X dL_law_1623 1625 rfl 7 rfl ?_
                    refine v_i2f X dL_law_1625 1626 rfl ?_
                    refine v_iload_n X dL_law_1626 1627 rfl 3 rfl ?_
                    refine v_iload X dL_law_1627 1629 rfl 5 rfl ?_
                    refine v_isub X dL_law_1629 1630 rfl ?_
                    refine v_i2f X dL_law_1630 1631 rfl ?_
                    refine v_fdiv X (hfn.1) dL_law_1631 1632 rfl ?_
                    refine V_S (st' := [.float (fvD (sumZ (fun j => bz (¬ co 4 j = 0)) (co 0 0).toNat) (co 0 0 - sumZ (fun j => bz (co 3 j = 0)) (co 0 0).toNat)), .float (fvD (sumZ (fun j => bz (¬ co 4 j = 0)) (co 0 0).toNat) (sumZ (fun j => bz (co 3 j = 1)) (co 0 0).toNat + sumZ (fun j => bz (co 3 j = 2)) (co 0 0).toNat))]) (by rfl) ?_
                    refine V_S (st' := [.float (fvD (sumZ (fun j => bz (¬ co 4 j = 0)) (co 0 0).toNat) (co 0 0 - sumZ (fun j => bz (co 3 j = 0)) (co 0 0).toNat)), .float (fvD (sumZ (fun j => bz (¬ co 4 j = 0)) (co 0 0).toNat) (co 0 0 - sumZ (fun j => bz (co 3 j = 0)) (co 0 0).toNat))]) (by rw [show sumZ (fun j => bz (co 3 j = 1)) (co 0 0).toNat + sumZ (fun j => bz (co 3 j = 2)) (co 0 0).toNat = co 0 0 - sumZ (fun j => bz (co 3 j = 0)) (co 0 0).toNat by omega]) ?_
                    skip
                    refine v_fcmp0 X hfc dL_law_1632 1633 rfl ?_
                    refine v_if_ne X (by omega) dL_law_1633 1636 1670 rfl (by decide) (fun c_19 => ?_) (fun c_19 => ?_)
                    · skip
                      exfalso; omega
                    · skip
                      refine v_aload_n X dL_law_1636 1637 rfl 1 rfl ?_
                      refine v_rdV X hM.C (PW.app h_cm.1 h_co.1) (c_X9_meanCredibility l E x co 0 (-1) (-1) 0 hO (by omega)) kvX9_meanCredibility kiX9_meanCredibility kl_L_296 rfl rfl (As := []) rfl rfl (rm_law0 rfl (by omega) (by omega)) dL_law_1637 1640 rfl ?_
                      show V p l e room_1 s m args below meth cd Q 32 H8 lo8 (kq + 2) (nq + 12) 1640 [(0, .ref (E 107 0)), (1, .ref x), (2, .int (zI t)), (3, .int (zI (co 0 0))), (4, .int (zI (co 0 1))), (5, .int (zI (sumZ (fun j => bz (co 3 j = 0)) (co 0 0).toNat))), (6, .int (zI (sumZ (fun j => bz (co 3 j = 2)) (co 0 0).toNat))), (7, .int (zI (sumZ (fun j => bz (¬ co 4 j = 0)) (co 0 0).toNat))), (8, .int (zI (sumZ (fun j => co 11 j) (co 0 1).toNat))), (9, .int (zI (fsF co (co 0 0).toNat))), (10, .int (zI (sumZ (fun k => bz (gpS co (Int.toNat k) 8 &&& (2 ^ Int.toNat k - 1) = 0)) (co 0 1).toNat))), (11, .ref y), (12, .ref (y + 1)), (13, .ref (y + 2)), (14, .int (zI (amx sF 6)))] [.double (dvD (sumZ (fun j => co 11 j) (co 0 1).toNat) (co 0 1))]
                      refine v_iload X dL_law_1640 1642 rfl 8 rfl ?_
                      refine v_i2d X dL_law_1642 1643 rfl ?_
                      refine v_iload X dL_law_1643 1645 rfl 4 rfl ?_
                      refine v_i2d X dL_law_1645 1646 rfl ?_
                      refine v_ddiv X (hdd.1) dL_law_1646 1647 rfl ?_
                      refine V_S (st' := [.double (dvD (sumZ (fun j => co 11 j) (co 0 1).toNat) (co 0 1)), .double (dvD (sumZ (fun j => co 11 j) (co 0 1).toNat) (co 0 1))]) (by rfl) ?_
                      skip
                      refine v_dcmp0 X hdd.2 dL_law_1647 1648 rfl ?_
                      refine v_if_ne X (by omega) dL_law_1648 1651 1670 rfl (by decide) (fun c_20 => ?_) (fun c_20 => ?_)
                      · skip
                        exfalso; omega
                      · skip
                        refine v_aload_n X dL_law_1651 1652 rfl 1 rfl ?_
                        refine v_muV X hM (h_cm.1) (p_isc l E x co v T hD) kvX9_isConsistent kiX9_isConsistent kl_L_300 (q0 := 0) rfl rfl (As := []) rfl rfl (rm_law rfl (by omega) (by omega)) dL_law_1652 1655 rfl (k' := kq + 2) (n' := nq + 12) rfl rfl (by intro q hq; simp only [Fr, Fs, or_false, false_or] at hq ⊢; omega) ⟨h_cm, h_co, h_w⟩ (fun rv H21 lo21 hM hF hpo => ?_)
                        obtain ⟨rfl, hw_0⟩ := hpo
                        have h_w : RW E x v T H21 := hw_0
                        clear hw_0
                        replace h_cm := h_cm.kept hF 1 rfl (by intro q q1 q2 q3; simp only [Fs, or_false] at q3; omega)
                        replace h_co := h_co.kept hF 28 rfl (by intro q q1 q2 q3; simp only [Fs, or_false] at q3; omega)
                        replace h_hw := h_hw.kept hF (by intro q q1 q2 q3; simp only [Fs, or_false] at q3; omega)
                        replace h_sn := h_sn.kept hF 1 rfl (by intro q q1 q2 q3; simp only [Fs, or_false] at q3; omega)
                        replace h_mt := h_mt.kept hF 1 rfl (by intro q q1 q2 q3; simp only [Fs, or_false] at q3; omega)
                        replace h_sq := h_sq.kept hF 1 rfl (by intro q q1 q2 q3; simp only [Fs, or_false] at q3; omega)
                        show V p l e room_1 s m args below meth cd Q 32 H21 lo21 (kq + 2) (nq + 12) 1655 [(0, .ref (E 107 0)), (1, .ref x), (2, .int (zI t)), (3, .int (zI (co 0 0))), (4, .int (zI (co 0 1))), (5, .int (zI (sumZ (fun j => bz (co 3 j = 0)) (co 0 0).toNat))), (6, .int (zI (sumZ (fun j => bz (co 3 j = 2)) (co 0 0).toNat))), (7, .int (zI (sumZ (fun j => bz (¬ co 4 j = 0)) (co 0 0).toNat))), (8, .int (zI (sumZ (fun j => co 11 j) (co 0 1).toNat))), (9, .int (zI (fsF co (co 0 0).toNat))), (10, .int (zI (sumZ (fun k => bz (gpS co (Int.toNat k) 8 &&& (2 ^ Int.toNat k - 1) = 0)) (co 0 1).toNat))), (11, .ref y), (12, .ref (y + 1)), (13, .ref (y + 2)), (14, .int (zI (amx sF 6)))] [.int (zI 1)]
                        refine v_if_eq X (by omega) dL_law_1655 1658 1670 rfl (by decide) (fun c_22 => ?_) (fun c_22 => ?_)
                        · skip
                          exfalso; omega
                        · skip
                          refine v_aload_n X dL_law_1658 1659 rfl 1 rfl ?_
                          refine v_iload X dL_law_1659 1661 rfl 4 rfl ?_
                          refine v_mwS X hM (w_X9_mostCredible_0_t l hl E x co 0 (-1) (-1) 0 (co 0 1) hO (by omega) (by exact rk_no hO)) kwL_mostCredible ksL_mostCredible kl_L_304 (As := [.ref x, .int (zI (co 0 1))]) rfl rfl (rm_lawW rfl (by omega) (by omega)) dL_law_1661 1664 rfl (k' := kq + 3) (n' := nq + 18) rfl rfl (fun q hq => hq.elim) ⟨h_cm, h_co⟩ (fun rv H23 lo23 hM hF hpo => ?_)
                          subst hpo
                          replace h_cm := h_cm.kept hF 1 rfl (fun q _ _ h => h.elim)
                          replace h_co := h_co.kept hF 28 rfl (fun q _ _ h => h.elim)
                          replace h_hw := h_hw.kept hF (fun q _ _ h => h.elim)
                          replace h_w := h_w.kept hF (fun q _ h => h.elim)
                          replace h_sn := h_sn.kept hF 1 rfl (fun q _ _ h => h.elim)
                          replace h_mt := h_mt.kept hF 1 rfl (fun q _ _ h => h.elim)
                          replace h_sq := h_sq.kept hF 1 rfl (fun q _ _ h => h.elim)
                          show V p l e room_1 s m args below meth cd Q 32 H23 lo23 (kq + 3) (nq + 18) 1664 [(0, .ref (E 107 0)), (1, .ref x), (2, .int (zI t)), (3, .int (zI (co 0 0))), (4, .int (zI (co 0 1))), (5, .int (zI (sumZ (fun j => bz (co 3 j = 0)) (co 0 0).toNat))), (6, .int (zI (sumZ (fun j => bz (co 3 j = 2)) (co 0 0).toNat))), (7, .int (zI (sumZ (fun j => bz (¬ co 4 j = 0)) (co 0 0).toNat))), (8, .int (zI (sumZ (fun j => co 11 j) (co 0 1).toNat))), (9, .int (zI (fsF co (co 0 0).toNat))), (10, .int (zI (sumZ (fun k => bz (gpS co (Int.toNat k) 8 &&& (2 ^ Int.toNat k - 1) = 0)) (co 0 1).toNat))), (11, .ref y), (12, .ref (y + 1)), (13, .ref (y + 2)), (14, .int (zI (amx sF 6)))] [.int (zI (-30000))]
                          refine v_sipush X dL_law_1664 1667 rfl rfl ?_
                          refine v_icmp_eq X (by omega) (by omega) dL_law_1667 1670 1672 rfl (by decide) (fun c_24 => ?_) (fun c_24 => ?_)
                          · skip
                            refine v_widen (k' := kq + 4) (n' := nq + 30) (by omega) (by omega) ?_
                            refine v_locals [0, 1, 2, 3, 4, 5, 6, 7, 8, 9, 10, 11, 12, 13] (L' := [(0, .ref (E 107 0)), (1, .ref x), (2, .int (zI t)), (3, .int (zI (co 0 0))), (4, .int (zI (co 0 1))), (5, .int (zI (sumZ (fun j => bz (co 3 j = 0)) (co 0 0).toNat))), (6, .int (zI (sumZ (fun j => bz (co 3 j = 2)) (co 0 0).toNat))), (7, .int (zI (sumZ (fun j => bz (¬ co 4 j = 0)) (co 0 0).toNat))), (8, .int (zI (sumZ (fun j => co 11 j) (co 0 1).toNat))), (9, .int (zI (fsF co (co 0 0).toNat))), (10, .int (zI (sumZ (fun k => bz (gpS co (Int.toNat k) 8 &&& (2 ^ Int.toNat k - 1) = 0)) (co 0 1).toNat))), (11, .ref y), (12, .ref (y + 1)), (13, .ref (y + 2))]) rfl ?_
                            exact kk _ _ hM h_cm h_co h_hw h_w h_sn h_mt h_sq
                          · skip
                            exfalso; omega
set_option maxHeartbeats 4000000 in
set_option maxRecDepth 20000 in
theorem sg_rank (hl : l.stackTraces = false) (X : CF p m cd cL_law 32 s args RL) {x : Nat} {y : Nat} {v : Nat} {co : Nat → Int → Int} {T : List Int} {t : Int} {sF : Int → Int} {mF : Int → Nat} {qF : Int → Int} {a5 : Int} {a6 : Int} {a7 : Int} {a8 : Int} {a9 : Int} {a10 : Int} (hx : s.heap.size ≤ x) (hD : InvD co) (hO : OkC co) (hU : UqI co) (hy : x + 334 ≤ y) (hvy : v < y ∨ y + 3 ≤ v) (hn0 : co 0 0 ≤ 9) (hn1 : 4 ≤ co 0 1 ∧ co 0 1 ≤ 7) (hqf : ∀ w : Int, 0 ≤ w → w < 8 → qF w = chC co w) (hM : MS E [] s H lo) (h_cm : PR E x [(x, .inr (11, [.ref (x + 1), .ref (x + 29), .ref (x + 57), .ref (x + 85), .ref (x + 311), .ref (x + 314), .ref (x + 319), .ref (x + 332), .int (zI 0), .int (zI (-1)), .int (zI (-1)), .int (zI 0)]))] H) (h_co : PR E (x + 1) (courtW E (x + 1) co) H) (h_hw : HW E x H) (h_w : RW E x v T H) (h_sn : PR E y [(y, .inl (E 102 0, 6, .inl (zA sF)))] H) (h_mt : PR E (y + 1) [(y + 1, .inl (E 102 0, 8, .inl (zA (nZ mF))))] H) (h_sq : PR E (y + 2) [(y + 2, .inl (E 102 0, 8, .inl (zA qF)))] H) (hk : kq + 0 ≤ 683119) (hn : nq + 0 ≤ 7044570) (kk : ∀ (H1 : Heap) (lo1 : List Loc), MS E [] s H1 lo1 → PR E x [(x, .inr (11, [.ref (x + 1), .ref (x + 29), .ref (x + 57), .ref (x + 85), .ref (x + 311), .ref (x + 314), .ref (x + 319), .ref (x + 332), .int (zI 0), .int (zI (-1)), .int (zI (-1)), .int (zI 0)]))] H1 → PR E (x + 1) (courtW E (x + 1) co) H1 → HW E x H1 → RW E x v T H1 → PR E y [(y, .inl (E 102 0, 6, .inl (zA sF)))] H1 → PR E (y + 1) [(y + 1, .inl (E 102 0, 8, .inl (zA (nZ mF))))] H1 → PR E (y + 2) [(y + 2, .inl (E 102 0, 8, .inl (zA qF)))] H1 → V p l e room_1 s m args below meth cd Q 32 H1 lo1 (kq + 0) (nq + 0) 1763 [(0, .ref (E 107 0)), (1, .ref x), (2, .int (zI t)), (3, .int (zI (co 0 0))), (4, .int (zI (co 0 1))), (5, .int (zI a5)), (6, .int (zI a6)), (7, .int (zI a7)), (8, .int (zI a8)), (9, .int (zI a9)), (10, .int (zI a10)), (11, .ref y), (12, .ref (y + 1)), (13, .ref (y + 2))] []) : V p l e room_1 s m args below meth cd Q 32 H lo kq nq 1672 [(0, .ref (E 107 0)), (1, .ref x), (2, .int (zI t)), (3, .int (zI (co 0 0))), (4, .int (zI (co 0 1))), (5, .int (zI a5)), (6, .int (zI a6)), (7, .int (zI a7)), (8, .int (zI a8)), (9, .int (zI a9)), (10, .int (zI a10)), (11, .ref y), (12, .ref (y + 1)), (13, .ref (y + 2))] [] := by
  have hvl := h_w.lt
  have hb0 := hO.b0
  have hbw := hO.bw
  refine v_iconst X dL_law_1672 1673 rfl ?_
  refine v_istore X dL_law_1673 1675 rfl (by decide) (L' := [(15, .int (zI 1)), (0, .ref (E 107 0)), (1, .ref x), (2, .int (zI t)), (3, .int (zI (co 0 0))), (4, .int (zI (co 0 1))), (5, .int (zI a5)), (6, .int (zI a6)), (7, .int (zI a7)), (8, .int (zI a8)), (9, .int (zI a9)), (10, .int (zI a10)), (11, .ref y), (12, .ref (y + 1)), (13, .ref (y + 2))]) rfl ?_
  refine V_L (L' := [(15, .int (zI (1 + 0))), (0, .ref (E 107 0)), (1, .ref x), (2, .int (zI t)), (3, .int (zI (co 0 0))), (4, .int (zI (co 0 1))), (5, .int (zI a5)), (6, .int (zI a6)), (7, .int (zI a7)), (8, .int (zI a8)), (9, .int (zI a9)), (10, .int (zI a10)), (11, .ref y), (12, .ref (y + 1)), (13, .ref (y + 2))]) (LC (vz (by omega)) (LC rfl (LC rfl (LC rfl (LC rfl (LC rfl (LC rfl (LC rfl (LC rfl (LC rfl (LC rfl (LC rfl (LC rfl (LC rfl (LC rfl rfl))))))))))))))) ?_
  refine up_loop ((co 0 1).toNat) (P := fun (i : Nat) => ∀ (H : Heap) (lo : List Loc), MS E [] s H lo → PR E x [(x, .inr (11, [.ref (x + 1), .ref (x + 29), .ref (x + 57), .ref (x + 85), .ref (x + 311), .ref (x + 314), .ref (x + 319), .ref (x + 332), .int (zI 0), .int (zI (-1)), .int (zI (-1)), .int (zI 0)]))] H → PR E (x + 1) (courtW E (x + 1) co) H → HW E x H → RW E x v T H → PR E y [(y, .inl (E 102 0, 6, .inl (zA sF)))] H → PR E (y + 1) [(y + 1, .inl (E 102 0, 8, .inl (zA (nZ mF))))] H → PR E (y + 2) [(y + 2, .inl (E 102 0, 8, .inl (zA qF)))] H → V p l e room_1 s m args below meth cd Q 32 H lo kq nq 1675 [(15, .int (zI (1 + (i : Int)))), (0, .ref (E 107 0)), (1, .ref x), (2, .int (zI t)), (3, .int (zI (co 0 0))), (4, .int (zI (co 0 1))), (5, .int (zI a5)), (6, .int (zI a6)), (7, .int (zI a7)), (8, .int (zI a8)), (9, .int (zI a9)), (10, .int (zI a10)), (11, .ref y), (12, .ref (y + 1)), (13, .ref (y + 2))] []) (fun i hi_i ih_i H1 lo1 hM h_cm h_co h_hw h_w h_sn h_mt h_sq => ?_) _ _ hM h_cm h_co h_hw h_w h_sn h_mt h_sq
  refine v_iload X dL_law_1675 1677 rfl 0 rfl ?_
  refine v_iload X dL_law_1677 1679 rfl 5 rfl ?_
  have hb_3 := hO.bw
  refine v_icmp_ge X (by omega) (by omega) dL_law_1679 1682 1763 rfl (by decide) (fun c_2 => ?_) (fun c_2 => ?_)
  · skip
    refine v_widen (k' := kq + 0) (n' := nq + 0) (by omega) (by omega) ?_
    refine v_locals [1, 2, 3, 4, 5, 6, 7, 8, 9, 10, 11, 12, 13, 14] (L' := [(0, .ref (E 107 0)), (1, .ref x), (2, .int (zI t)), (3, .int (zI (co 0 0))), (4, .int (zI (co 0 1))), (5, .int (zI a5)), (6, .int (zI a6)), (7, .int (zI a7)), (8, .int (zI a8)), (9, .int (zI a9)), (10, .int (zI a10)), (11, .ref y), (12, .ref (y + 1)), (13, .ref (y + 2))]) rfl ?_
    exact kk _ _ hM h_cm h_co h_hw h_w h_sn h_mt h_sq
  · skip
    have hra := rk_at hO (k := 1 + (i : Int) - 1) (by omega) (by omega)
    have hrb := rk_at hO (k := 1 + (i : Int)) (by omega) (by omega)
    refine v_aload_n X dL_law_1682 1683 rfl 2 rfl ?_
    refine v_iload X dL_law_1683 1685 rfl 0 rfl ?_
    refine v_iconst X dL_law_1685 1686 rfl ?_
    refine v_isub X dL_law_1686 1687 rfl ?_
    refine v_rdV X hM.C (PW.app h_cm.1 h_co.1) (c_X9_mostCredible l E x co 0 (-1) (-1) 0 (1 + (i : Int) - 1) hO (by omega) (by exact hra.1)) kvX9_mostCredible kiX9_mostCredible kl_L_48 rfl rfl (As := [.int (zI (1 + (i : Int) - 1))]) rfl rfl (rm_law0 rfl (by omega) (by omega)) dL_law_1687 1690 rfl ?_
    show V p l e room_1 s m args below meth cd Q 32 H1 lo1 kq nq 1690 [(15, .int (zI (1 + (i : Int)))), (0, .ref (E 107 0)), (1, .ref x), (2, .int (zI t)), (3, .int (zI (co 0 0))), (4, .int (zI (co 0 1))), (5, .int (zI a5)), (6, .int (zI a6)), (7, .int (zI a7)), (8, .int (zI a8)), (9, .int (zI a9)), (10, .int (zI a10)), (11, .ref y), (12, .ref (y + 1)), (13, .ref (y + 2))] [.int (zI (firstZ (fun j => rkC co j = (1 + (i : Int) - 1)) (co 0 1).toNat))]
    refine v_istore X dL_law_1690 1692 rfl (by decide) (L' := [(16, .int (zI (firstZ (fun j => rkC co j = (1 + (i : Int) - 1)) (co 0 1).toNat))), (15, .int (zI (1 + (i : Int)))), (0, .ref (E 107 0)), (1, .ref x), (2, .int (zI t)), (3, .int (zI (co 0 0))), (4, .int (zI (co 0 1))), (5, .int (zI a5)), (6, .int (zI a6)), (7, .int (zI a7)), (8, .int (zI a8)), (9, .int (zI a9)), (10, .int (zI a10)), (11, .ref y), (12, .ref (y + 1)), (13, .ref (y + 2))]) rfl ?_
    have hro := rk_ord hO (k := 1 + (i : Int)) (by omega) (by omega) rfl rfl
    obtain ⟨fa9, hfa⟩ : ∃ fa9 : Int, firstZ (fun j => rkC co j = 1 + (i : Int) - 1) (co 0 1).toNat = fa9 := ⟨_, rfl⟩
    obtain ⟨fb9, hfb⟩ : ∃ fb9 : Int, firstZ (fun j => rkC co j = 1 + (i : Int)) (co 0 1).toNat = fb9 := ⟨_, rfl⟩
    rw [hfa, hfb] at hro
    rw [hfa] at hra
    rw [hfb] at hrb
    have hmc : co 11 fb9 < co 11 fa9 ∨ (co 11 fa9 = co 11 fb9 ∧ (chC co fb9 < chC co fa9 ∨ (chC co fa9 = chC co fb9 ∧ fa9 < fb9))) := hro.2.2
    have hqfa9 := hqf fa9 (by omega) (by omega)
    have hcfa9 : 0 ≤ chC co fa9 ∧ chC co fa9 ≤ (co 0 0).toNat := cnt_b (fun j => 0 < co 9 (j * 8 + fa9)) _
    have hb11fa9 := hO.b11 fa9
    have hqfb9 := hqf fb9 (by omega) (by omega)
    have hcfb9 : 0 ≤ chC co fb9 ∧ chC co fb9 ≤ (co 0 0).toNat := cnt_b (fun j => 0 < co 9 (j * 8 + fb9)) _
    have hb11fb9 := hO.b11 fb9
    refine V_L (L' := [(16, .int (zI fa9)), (15, .int (zI (1 + (i : Int)))), (0, .ref (E 107 0)), (1, .ref x), (2, .int (zI t)), (3, .int (zI (co 0 0))), (4, .int (zI (co 0 1))), (5, .int (zI a5)), (6, .int (zI a6)), (7, .int (zI a7)), (8, .int (zI a8)), (9, .int (zI a9)), (10, .int (zI a10)), (11, .ref y), (12, .ref (y + 1)), (13, .ref (y + 2))]) (LC (vz (by exact hfa)) (LC rfl (LC rfl (LC rfl (LC rfl (LC rfl (LC rfl (LC rfl (LC rfl (LC rfl (LC rfl (LC rfl (LC rfl (LC rfl (LC rfl (LC rfl rfl)))))))))))))))) ?_
    refine v_aload_n X dL_law_1692 1693 rfl 3 rfl ?_
    refine v_iload X dL_law_1693 1695 rfl 1 rfl ?_
    refine v_rdV X hM.C (PW.app h_cm.1 h_co.1) (c_X9_mostCredible l E x co 0 (-1) (-1) 0 (1 + (i : Int)) hO (by omega) (by rw [hfb]; omega)) kvX9_mostCredible kiX9_mostCredible kl_L_48 rfl rfl (As := [.int (zI (1 + (i : Int)))]) rfl rfl (rm_law0 rfl (by omega) (by omega)) dL_law_1695 1698 rfl ?_
    show V p l e room_1 s m args below meth cd Q 32 H1 lo1 kq nq 1698 [(16, .int (zI fa9)), (15, .int (zI (1 + (i : Int)))), (0, .ref (E 107 0)), (1, .ref x), (2, .int (zI t)), (3, .int (zI (co 0 0))), (4, .int (zI (co 0 1))), (5, .int (zI a5)), (6, .int (zI a6)), (7, .int (zI a7)), (8, .int (zI a8)), (9, .int (zI a9)), (10, .int (zI a10)), (11, .ref y), (12, .ref (y + 1)), (13, .ref (y + 2))] [.int (zI (firstZ (fun j => rkC co j = (1 + (i : Int))) (co 0 1).toNat))]
    refine V_S (st' := [.int (zI fb9)]) (by rw [hfb]) ?_
    refine v_istore X dL_law_1698 1700 rfl (by decide) (L' := [(17, .int (zI fb9)), (16, .int (zI fa9)), (15, .int (zI (1 + (i : Int)))), (0, .ref (E 107 0)), (1, .ref x), (2, .int (zI t)), (3, .int (zI (co 0 0))), (4, .int (zI (co 0 1))), (5, .int (zI a5)), (6, .int (zI a6)), (7, .int (zI a7)), (8, .int (zI a8)), (9, .int (zI a9)), (10, .int (zI a10)), (11, .ref y), (12, .ref (y + 1)), (13, .ref (y + 2))]) rfl ?_
    refine v_aload_n X dL_law_1700 1701 rfl 4 rfl ?_
    refine v_iload X dL_law_1701 1703 rfl 1 rfl ?_
    refine v_rdV X hM.C (PW.app h_cm.1 h_co.1) (c_X9_credibility l E x co 0 (-1) (-1) 0 fa9 hO (by omega) (by omega)) kvX9_credibility kiX9_credibility kl_L_119 rfl rfl (As := [.int (zI fa9)]) rfl rfl (rm_law0 rfl (by omega) (by omega)) dL_law_1703 1706 rfl ?_
    show V p l e room_1 s m args below meth cd Q 32 H1 lo1 kq nq 1706 [(17, .int (zI fb9)), (16, .int (zI fa9)), (15, .int (zI (1 + (i : Int)))), (0, .ref (E 107 0)), (1, .ref x), (2, .int (zI t)), (3, .int (zI (co 0 0))), (4, .int (zI (co 0 1))), (5, .int (zI a5)), (6, .int (zI a6)), (7, .int (zI a7)), (8, .int (zI a8)), (9, .int (zI a9)), (10, .int (zI a10)), (11, .ref y), (12, .ref (y + 1)), (13, .ref (y + 2))] [.int (zI (co 11 fa9))]
    have hb_4 := hO.b11 fa9
    refine v_aload_n X dL_law_1706 1707 rfl 4 rfl ?_
    refine v_iload X dL_law_1707 1709 rfl 0 rfl ?_
    refine v_rdV X hM.C (PW.app h_cm.1 h_co.1) (c_X9_credibility l E x co 0 (-1) (-1) 0 fb9 hO (by omega) (by omega)) kvX9_credibility kiX9_credibility kl_L_119 rfl rfl (As := [.int (zI fb9)]) rfl rfl (rm_law0 rfl (by omega) (by omega)) dL_law_1709 1712 rfl ?_
    show V p l e room_1 s m args below meth cd Q 32 H1 lo1 kq nq 1712 [(17, .int (zI fb9)), (16, .int (zI fa9)), (15, .int (zI (1 + (i : Int)))), (0, .ref (E 107 0)), (1, .ref x), (2, .int (zI t)), (3, .int (zI (co 0 0))), (4, .int (zI (co 0 1))), (5, .int (zI a5)), (6, .int (zI a6)), (7, .int (zI a7)), (8, .int (zI a8)), (9, .int (zI a9)), (10, .int (zI a10)), (11, .ref y), (12, .ref (y + 1)), (13, .ref (y + 2))] [.int (zI (co 11 fb9)), .int (zI (co 11 fa9))]
    have hb_5 := hO.b11 fb9
    refine v_isub X dL_law_1712 1713 rfl ?_
    refine v_istore X dL_law_1713 1715 rfl (by decide) (L' := [(18, .int (zI (co 11 fa9 - co 11 fb9))), (17, .int (zI fb9)), (16, .int (zI fa9)), (15, .int (zI (1 + (i : Int)))), (0, .ref (E 107 0)), (1, .ref x), (2, .int (zI t)), (3, .int (zI (co 0 0))), (4, .int (zI (co 0 1))), (5, .int (zI a5)), (6, .int (zI a6)), (7, .int (zI a7)), (8, .int (zI a8)), (9, .int (zI a9)), (10, .int (zI a10)), (11, .ref y), (12, .ref (y + 1)), (13, .ref (y + 2))]) rfl ?_
    refine v_aload X dL_law_1715 1717 rfl 17 rfl ?_
    refine v_iload X dL_law_1717 1719 rfl 2 rfl ?_
    refine v_iald X hM.C h_sq.1 0 rfl (by omega) (by omega) (by omega) dL_law_1719 1720 rfl ?_
    show V p l e room_1 s m args below meth cd Q 32 H1 lo1 kq nq 1720 [(18, .int (zI (co 11 fa9 - co 11 fb9))), (17, .int (zI fb9)), (16, .int (zI fa9)), (15, .int (zI (1 + (i : Int)))), (0, .ref (E 107 0)), (1, .ref x), (2, .int (zI t)), (3, .int (zI (co 0 0))), (4, .int (zI (co 0 1))), (5, .int (zI a5)), (6, .int (zI a6)), (7, .int (zI a7)), (8, .int (zI a8)), (9, .int (zI a9)), (10, .int (zI a10)), (11, .ref y), (12, .ref (y + 1)), (13, .ref (y + 2))] [.int (zI (qF fa9))]
    refine v_aload X dL_law_1720 1722 rfl 17 rfl ?_
    refine v_iload X dL_law_1722 1724 rfl 1 rfl ?_
    refine v_iald X hM.C h_sq.1 0 rfl (by omega) (by omega) (by omega) dL_law_1724 1725 rfl ?_
    show V p l e room_1 s m args below meth cd Q 32 H1 lo1 kq nq 1725 [(18, .int (zI (co 11 fa9 - co 11 fb9))), (17, .int (zI fb9)), (16, .int (zI fa9)), (15, .int (zI (1 + (i : Int)))), (0, .ref (E 107 0)), (1, .ref x), (2, .int (zI t)), (3, .int (zI (co 0 0))), (4, .int (zI (co 0 1))), (5, .int (zI a5)), (6, .int (zI a6)), (7, .int (zI a7)), (8, .int (zI a8)), (9, .int (zI a9)), (10, .int (zI a10)), (11, .ref y), (12, .ref (y + 1)), (13, .ref (y + 2))] [.int (zI (qF fb9)), .int (zI (qF fa9))]
    refine v_isub X dL_law_1725 1726 rfl ?_
    refine v_istore X dL_law_1726 1728 rfl (by decide) (L' := [(19, .int (zI (qF fa9 - qF fb9))), (18, .int (zI (co 11 fa9 - co 11 fb9))), (17, .int (zI fb9)), (16, .int (zI fa9)), (15, .int (zI (1 + (i : Int)))), (0, .ref (E 107 0)), (1, .ref x), (2, .int (zI t)), (3, .int (zI (co 0 0))), (4, .int (zI (co 0 1))), (5, .int (zI a5)), (6, .int (zI a6)), (7, .int (zI a7)), (8, .int (zI a8)), (9, .int (zI a9)), (10, .int (zI a10)), (11, .ref y), (12, .ref (y + 1)), (13, .ref (y + 2))]) rfl ?_
    refine v_iload X dL_law_1728 1730 rfl 1 rfl ?_
    refine v_if_lt X (by omega) dL_law_1730 1733 1755 rfl (by decide) (fun c_6 => ?_) (fun c_6 => ?_)
    · skip
      exfalso; omega
    · skip
      refine v_iload X dL_law_1733 1735 rfl 1 rfl ?_
      refine v_if_ne X (by omega) dL_law_1735 1738 1757 rfl (by decide) (fun c_7 => ?_) (fun c_7 => ?_)
      · skip
        refine v_iinc X dL_law_1757 1760 rfl 4 rfl (by decide) (L' := [(15, .int (zI (1 + (i : Int) + 1))), (19, .int (zI (qF fa9 - qF fb9))), (18, .int (zI (co 11 fa9 - co 11 fb9))), (17, .int (zI fb9)), (16, .int (zI fa9)), (0, .ref (E 107 0)), (1, .ref x), (2, .int (zI t)), (3, .int (zI (co 0 0))), (4, .int (zI (co 0 1))), (5, .int (zI a5)), (6, .int (zI a6)), (7, .int (zI a7)), (8, .int (zI a8)), (9, .int (zI a9)), (10, .int (zI a10)), (11, .ref y), (12, .ref (y + 1)), (13, .ref (y + 2))]) rfl ?_
        refine v_goto X dL_law_1760 1675 (by decide) ?_
        refine v_locals [0, 5, 6, 7, 8, 9, 10, 11, 12, 13, 14, 15, 16, 17, 18] (L' := [(15, .int (zI (1 + (i : Int) + 1))), (0, .ref (E 107 0)), (1, .ref x), (2, .int (zI t)), (3, .int (zI (co 0 0))), (4, .int (zI (co 0 1))), (5, .int (zI a5)), (6, .int (zI a6)), (7, .int (zI a7)), (8, .int (zI a8)), (9, .int (zI a9)), (10, .int (zI a10)), (11, .ref y), (12, .ref (y + 1)), (13, .ref (y + 2))]) rfl ?_
        have hb_8 := hO.b0
        exact V_L (L' := [(15, .int (zI (1 + ((i + 1 : Nat) : Int)))), (0, .ref (E 107 0)), (1, .ref x), (2, .int (zI t)), (3, .int (zI (co 0 0))), (4, .int (zI (co 0 1))), (5, .int (zI a5)), (6, .int (zI a6)), (7, .int (zI a7)), (8, .int (zI a8)), (9, .int (zI a9)), (10, .int (zI a10)), (11, .ref y), (12, .ref (y + 1)), (13, .ref (y + 2))]) (LC (vz (by omega)) (LC rfl (LC rfl (LC rfl (LC rfl (LC rfl (LC rfl (LC rfl (LC rfl (LC rfl (LC rfl (LC rfl (LC rfl (LC rfl (LC rfl rfl))))))))))))))) (ih_i (by omega) _ _ hM h_cm h_co h_hw h_w h_sn h_mt h_sq)
      · skip
        refine v_iload X dL_law_1738 1740 rfl 0 rfl ?_
        refine v_if_lt X (by omega) dL_law_1740 1743 1755 rfl (by decide) (fun c_9 => ?_) (fun c_9 => ?_)
        · skip
          exfalso; omega
        · skip
          refine v_iload X dL_law_1743 1745 rfl 0 rfl ?_
          refine v_if_ne X (by omega) dL_law_1745 1748 1757 rfl (by decide) (fun c_10 => ?_) (fun c_10 => ?_)
          · skip
            refine v_iinc X dL_law_1757 1760 rfl 4 rfl (by decide) (L' := [(15, .int (zI (1 + (i : Int) + 1))), (19, .int (zI (qF fa9 - qF fb9))), (18, .int (zI (co 11 fa9 - co 11 fb9))), (17, .int (zI fb9)), (16, .int (zI fa9)), (0, .ref (E 107 0)), (1, .ref x), (2, .int (zI t)), (3, .int (zI (co 0 0))), (4, .int (zI (co 0 1))), (5, .int (zI a5)), (6, .int (zI a6)), (7, .int (zI a7)), (8, .int (zI a8)), (9, .int (zI a9)), (10, .int (zI a10)), (11, .ref y), (12, .ref (y + 1)), (13, .ref (y + 2))]) rfl ?_
            refine v_goto X dL_law_1760 1675 (by decide) ?_
            refine v_locals [0, 5, 6, 7, 8, 9, 10, 11, 12, 13, 14, 15, 16, 17, 18] (L' := [(15, .int (zI (1 + (i : Int) + 1))), (0, .ref (E 107 0)), (1, .ref x), (2, .int (zI t)), (3, .int (zI (co 0 0))), (4, .int (zI (co 0 1))), (5, .int (zI a5)), (6, .int (zI a6)), (7, .int (zI a7)), (8, .int (zI a8)), (9, .int (zI a9)), (10, .int (zI a10)), (11, .ref y), (12, .ref (y + 1)), (13, .ref (y + 2))]) rfl ?_
            have hb_11 := hO.b0
            exact V_L (L' := [(15, .int (zI (1 + ((i + 1 : Nat) : Int)))), (0, .ref (E 107 0)), (1, .ref x), (2, .int (zI t)), (3, .int (zI (co 0 0))), (4, .int (zI (co 0 1))), (5, .int (zI a5)), (6, .int (zI a6)), (7, .int (zI a7)), (8, .int (zI a8)), (9, .int (zI a9)), (10, .int (zI a10)), (11, .ref y), (12, .ref (y + 1)), (13, .ref (y + 2))]) (LC (vz (by omega)) (LC rfl (LC rfl (LC rfl (LC rfl (LC rfl (LC rfl (LC rfl (LC rfl (LC rfl (LC rfl (LC rfl (LC rfl (LC rfl (LC rfl rfl))))))))))))))) (ih_i (by omega) _ _ hM h_cm h_co h_hw h_w h_sn h_mt h_sq)
          · skip
            refine v_iload X dL_law_1748 1750 rfl 3 rfl ?_
            refine v_iload X dL_law_1750 1752 rfl 2 rfl ?_
            refine v_icmp_le X (by omega) (by omega) dL_law_1752 1755 1757 rfl (by decide) (fun c_12 => ?_) (fun c_12 => ?_)
            · skip
              refine v_iinc X dL_law_1757 1760 rfl 4 rfl (by decide) (L' := [(15, .int (zI (1 + (i : Int) + 1))), (19, .int (zI (qF fa9 - qF fb9))), (18, .int (zI (co 11 fa9 - co 11 fb9))), (17, .int (zI fb9)), (16, .int (zI fa9)), (0, .ref (E 107 0)), (1, .ref x), (2, .int (zI t)), (3, .int (zI (co 0 0))), (4, .int (zI (co 0 1))), (5, .int (zI a5)), (6, .int (zI a6)), (7, .int (zI a7)), (8, .int (zI a8)), (9, .int (zI a9)), (10, .int (zI a10)), (11, .ref y), (12, .ref (y + 1)), (13, .ref (y + 2))]) rfl ?_
              refine v_goto X dL_law_1760 1675 (by decide) ?_
              refine v_locals [0, 5, 6, 7, 8, 9, 10, 11, 12, 13, 14, 15, 16, 17, 18] (L' := [(15, .int (zI (1 + (i : Int) + 1))), (0, .ref (E 107 0)), (1, .ref x), (2, .int (zI t)), (3, .int (zI (co 0 0))), (4, .int (zI (co 0 1))), (5, .int (zI a5)), (6, .int (zI a6)), (7, .int (zI a7)), (8, .int (zI a8)), (9, .int (zI a9)), (10, .int (zI a10)), (11, .ref y), (12, .ref (y + 1)), (13, .ref (y + 2))]) rfl ?_
              have hb_13 := hO.b0
              exact V_L (L' := [(15, .int (zI (1 + ((i + 1 : Nat) : Int)))), (0, .ref (E 107 0)), (1, .ref x), (2, .int (zI t)), (3, .int (zI (co 0 0))), (4, .int (zI (co 0 1))), (5, .int (zI a5)), (6, .int (zI a6)), (7, .int (zI a7)), (8, .int (zI a8)), (9, .int (zI a9)), (10, .int (zI a10)), (11, .ref y), (12, .ref (y + 1)), (13, .ref (y + 2))]) (LC (vz (by omega)) (LC rfl (LC rfl (LC rfl (LC rfl (LC rfl (LC rfl (LC rfl (LC rfl (LC rfl (LC rfl (LC rfl (LC rfl (LC rfl (LC rfl rfl))))))))))))))) (ih_i (by omega) _ _ hM h_cm h_co h_hw h_w h_sn h_mt h_sq)
            · skip
              exfalso; omega
end LAWSEG
