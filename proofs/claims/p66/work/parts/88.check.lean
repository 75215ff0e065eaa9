section LAWSEG
variable {p : Program} {l : Launch} {e : Env} {s : State} {m : MethodId} {args : Array Value} {below : List Frame} {meth : Method} {cd : Code} {Q : State → Prop} {E : Nat → Nat → Nat} {H : Heap} {lo : List Loc} {kq nq : Nat}
set_option maxHeartbeats 4000000 in
set_option maxRecDepth 20000 in
theorem sg_uniq (hl : l.stackTraces = false) (X : CF p m cd cL_law 32 s args RL) {x : Nat} {y : Nat} {v : Nat} {co : Nat → Int → Int} {T : List Int} {t : Int} {sF : Int → Int} {mF : Int → Nat} {qF : Int → Int} {a5 : Int} {a6 : Int} {a7 : Int} {a8 : Int} {a9 : Int} {a10 : Int} {c : Nat} {b : Nat} (hx : s.heap.size ≤ x) (hD : InvD co) (hO : OkC co) (hU : UqI co) (hy : x + 334 ≤ y) (hvy : v < y ∨ y + 3 ≤ v) (hn0 : co 0 0 ≤ 9) (hn1 : 4 ≤ co 0 1 ∧ co 0 1 ≤ 7) (hyb : y + 3 ≤ b) (hvb : v < b) (hc : (c : Int) < co 0 0) (hM : MS E [] s H lo) (h_cm : PR E x [(x, .inr (11, [.ref (x + 1), .ref (x + 29), .ref (x + 57), .ref (x + 85), .ref (x + 311), .ref (x + 314), .ref (x + 319), .ref (x + 332), .int (zI 0), .int (zI (-1)), .int (zI (-1)), .int (zI 0)]))] H) (h_co : PR E (x + 1) (courtW E (x + 1) co) H) (h_hw : HW E x H) (h_w : RW E x v T H) (h_sn : PR E y [(y, .inl (E 102 0, 6, .inl (zA sF)))] H) (h_mt : PR E (y + 1) [(y + 1, .inl (E 102 0, 8, .inl (zA (nZ mF))))] H) (h_sq : PR E (y + 2) [(y + 2, .inl (E 102 0, 8, .inl (zA qF)))] H) (h_ls : StrW E b (hdT co (c : Int)) H) (hk : kq + 0 ≤ 683119) (hn : nq + 0 ≤ 7044570) (kk : ∀ (H1 : Heap) (lo1 : List Loc), MS E [] s H1 lo1 → PR E x [(x, .inr (11, [.ref (x + 1), .ref (x + 29), .ref (x + 57), .ref (x + 85), .ref (x + 311), .ref (x + 314), .ref (x + 319), .ref (x + 332), .int (zI 0), .int (zI (-1)), .int (zI (-1)), .int (zI 0)]))] H1 → PR E (x + 1) (courtW E (x + 1) co) H1 → HW E x H1 → RW E x v T H1 → PR E y [(y, .inl (E 102 0, 6, .inl (zA sF)))] H1 → PR E (y + 1) [(y + 1, .inl (E 102 0, 8, .inl (zA (nZ mF))))] H1 → PR E (y + 2) [(y + 2, .inl (E 102 0, 8, .inl (zA qF)))] H1 → StrW E b (hdT co (c : Int)) H1 → V p l e room_1 s m args below meth cd Q 32 H1 lo1 (kq + 0) (nq + 0) 303 [(0, .ref (E 107 0)), (1, .ref x), (2, .int (zI t)), (3, .int (zI (co 0 0))), (4, .int (zI (co 0 1))), (5, .int (zI a5)), (6, .int (zI a6)), (7, .int (zI a7)), (8, .int (zI a8)), (9, .int (zI a9)), (10, .int (zI a10)), (11, .ref y), (12, .ref (y + 1)), (13, .ref (y + 2)), (14, .int (zI (c : Int))), (15, .int (zI (co 1 (c : Int)))), (16, .int (zI (co 2 (c : Int)))), (17, .int (zI (co 6 (c : Int)))), (18, .int (zI (vdC co (c : Int)))), (19, .int (zI (wsC co (c : Int) 1))), (20, .int (zI (wsC co (c : Int) (-1)))), (21, .int (zI (mgC co (c : Int)))), (22, .int (zI 0)), (23, .int (zI (-30000))), (24, .int (zI 0)), (25, .ref b)] []) : V p l e room_1 s m args below meth cd Q 32 H lo kq nq 263 [(0, .ref (E 107 0)), (1, .ref x), (2, .int (zI t)), (3, .int (zI (co 0 0))), (4, .int (zI (co 0 1))), (5, .int (zI a5)), (6, .int (zI a6)), (7, .int (zI a7)), (8, .int (zI a8)), (9, .int (zI a9)), (10, .int (zI a10)), (11, .ref y), (12, .ref (y + 1)), (13, .ref (y + 2)), (14, .int (zI (c : Int))), (15, .int (zI (co 1 (c : Int)))), (16, .int (zI (co 2 (c : Int)))), (17, .int (zI (co 6 (c : Int)))), (18, .int (zI (vdC co (c : Int)))), (19, .int (zI (wsC co (c : Int) 1))), (20, .int (zI (wsC co (c : Int) (-1)))), (21, .int (zI (mgC co (c : Int)))), (22, .int (zI 0)), (23, .int (zI (-30000))), (24, .int (zI 0)), (25, .ref b)] [] := by
  have hvl := h_w.lt
  have hb0 := hO.b0
  refine v_iconst X dL_law_263 264 rfl ?_
  refine v_istore X dL_law_264 266 rfl (by decide) (L' := [(26, .int (zI 0)), (0, .ref (E 107 0)), (1, .ref x), (2, .int (zI t)), (3, .int (zI (co 0 0))), (4, .int (zI (co 0 1))), (5, .int (zI a5)), (6, .int (zI a6)), (7, .int (zI a7)), (8, .int (zI a8)), (9, .int (zI a9)), (10, .int (zI a10)), (11, .ref y), (12, .ref (y + 1)), (13, .ref (y + 2)), (14, .int (zI (c : Int))), (15, .int (zI (co 1 (c : Int)))), (16, .int (zI (co 2 (c : Int)))), (17, .int (zI (co 6 (c : Int)))), (18, .int (zI (vdC co (c : Int)))), (19, .int (zI (wsC co (c : Int) 1))), (20, .int (zI (wsC co (c : Int) (-1)))), (21, .int (zI (mgC co (c : Int)))), (22, .int (zI 0)), (23, .int (zI (-30000))), (24, .int (zI 0)), (25, .ref b)]) rfl ?_
  refine V_L (L' := [(26, .int (zI 0)), (0, .ref (E 107 0)), (1, .ref x), (2, .int (zI t)), (3, .int (zI (co 0 0))), (4, .int (zI (co 0 1))), (5, .int (zI a5)), (6, .int (zI a6)), (7, .int (zI a7)), (8, .int (zI a8)), (9, .int (zI a9)), (10, .int (zI a10)), (11, .ref y), (12, .ref (y + 1)), (13, .ref (y + 2)), (14, .int (zI (c : Int))), (15, .int (zI (co 1 (c : Int)))), (16, .int (zI (co 2 (c : Int)))), (17, .int (zI (co 6 (c : Int)))), (18, .int (zI (vdC co (c : Int)))), (19, .int (zI (wsC co (c : Int) 1))), (20, .int (zI (wsC co (c : Int) (-1)))), (21, .int (zI (mgC co (c : Int)))), (22, .int (zI 0)), (23, .int (zI (-30000))), (24, .int (zI 0)), (25, .ref b)]) (LC rfl (LC rfl (LC rfl (LC rfl (LC rfl (LC rfl (LC rfl (LC rfl (LC rfl (LC rfl (LC rfl (LC rfl (LC rfl (LC rfl (LC rfl (LC rfl (LC rfl (LC rfl (LC rfl (LC rfl (LC rfl (LC rfl (LC rfl (LC rfl (LC rfl (LC rfl (LC rfl rfl))))))))))))))))))))))))))) ?_
  refine up_loop c (P := fun (i : Nat) => ∀ (H : Heap) (lo : List Loc), MS E [] s H lo → PR E x [(x, .inr (11, [.ref (x + 1), .ref (x + 29), .ref (x + 57), .ref (x + 85), .ref (x + 311), .ref (x + 314), .ref (x + 319), .ref (x + 332), .int (zI 0), .int (zI (-1)), .int (zI (-1)), .int (zI 0)]))] H → PR E (x + 1) (courtW E (x + 1) co) H → HW E x H → RW E x v T H → PR E y [(y, .inl (E 102 0, 6, .inl (zA sF)))] H → PR E (y + 1) [(y + 1, .inl (E 102 0, 8, .inl (zA (nZ mF))))] H → PR E (y + 2) [(y + 2, .inl (E 102 0, 8, .inl (zA qF)))] H → StrW E b (hdT co (c : Int)) H → V p l e room_1 s m args below meth cd Q 32 H lo kq nq 266 [(26, .int (zI (i : Int))), (0, .ref (E 107 0)), (1, .ref x), (2, .int (zI t)), (3, .int (zI (co 0 0))), (4, .int (zI (co 0 1))), (5, .int (zI a5)), (6, .int (zI a6)), (7, .int (zI a7)), (8, .int (zI a8)), (9, .int (zI a9)), (10, .int (zI a10)), (11, .ref y), (12, .ref (y + 1)), (13, .ref (y + 2)), (14, .int (zI (c : Int))), (15, .int (zI (co 1 (c : Int)))), (16, .int (zI (co 2 (c : Int)))), (17, .int (zI (co 6 (c : Int)))), (18, .int (zI (vdC co (c : Int)))), (19, .int (zI (wsC co (c : Int) 1))), (20, .int (zI (wsC co (c : Int) (-1)))), (21, .int (zI (mgC co (c : Int)))), (22, .int (zI 0)), (23, .int (zI (-30000))), (24, .int (zI 0)), (25, .ref b)] []) (fun i hi_i ih_i H1 lo1 hM h_cm h_co h_hw h_w h_sn h_mt h_sq h_ls => ?_) _ _ hM h_cm h_co h_hw h_w h_sn h_mt h_sq h_ls
  refine v_iload X dL_law_266 268 rfl 0 rfl ?_
  refine v_iload X dL_law_268 270 rfl 15 rfl ?_
  refine v_icmp_ge X (by omega) (by omega) dL_law_270 273 303 rfl (by decide) (fun c_2 => ?_) (fun c_2 => ?_)
  · skip
    refine v_widen (k' := kq + 0) (n' := nq + 0) (by omega) (by omega) ?_
    refine v_locals [1, 2, 3, 4, 5, 6, 7, 8, 9, 10, 11, 12, 13, 14, 15, 16, 17, 18, 19, 20, 21, 22, 23, 24, 25, 26] (L' := [(0, .ref (E 107 0)), (1, .ref x), (2, .int (zI t)), (3, .int (zI (co 0 0))), (4, .int (zI (co 0 1))), (5, .int (zI a5)), (6, .int (zI a6)), (7, .int (zI a7)), (8, .int (zI a8)), (9, .int (zI a9)), (10, .int (zI a10)), (11, .ref y), (12, .ref (y + 1)), (13, .ref (y + 2)), (14, .int (zI (c : Int))), (15, .int (zI (co 1 (c : Int)))), (16, .int (zI (co 2 (c : Int)))), (17, .int (zI (co 6 (c : Int)))), (18, .int (zI (vdC co (c : Int)))), (19, .int (zI (wsC co (c : Int) 1))), (20, .int (zI (wsC co (c : Int) (-1)))), (21, .int (zI (mgC co (c : Int)))), (22, .int (zI 0)), (23, .int (zI (-30000))), (24, .int (zI 0)), (25, .ref b)]) rfl ?_
    exact kk _ _ hM h_cm h_co h_hw h_w h_sn h_mt h_sq h_ls
  · skip
    refine v_aload_n X dL_law_273 274 rfl 2 rfl ?_
    refine v_iload X dL_law_274 276 rfl 0 rfl ?_
    have hb_3 := hO.b0
    refine v_rdV X hM.C (PW.app h_cm.1 h_co.1) (c_X9_defendantOf l E x co 0 (-1) (-1) 0 (i : Int) hO (by omega) (by omega)) kvX9_defendantOf kiX9_defendantOf kl_L_139 rfl rfl (As := [.int (zI (i : Int))]) rfl rfl (rm_law0 rfl (by omega) (by omega)) dL_law_276 279 rfl ?_
    show V p l e room_1 s m args below meth cd Q 32 H1 lo1 kq nq 279 [(26, .int (zI (i : Int))), (0, .ref (E 107 0)), (1, .ref x), (2, .int (zI t)), (3, .int (zI (co 0 0))), (4, .int (zI (co 0 1))), (5, .int (zI a5)), (6, .int (zI a6)), (7, .int (zI a7)), (8, .int (zI a8)), (9, .int (zI a9)), (10, .int (zI a10)), (11, .ref y), (12, .ref (y + 1)), (13, .ref (y + 2)), (14, .int (zI (c : Int))), (15, .int (zI (co 1 (c : Int)))), (16, .int (zI (co 2 (c : Int)))), (17, .int (zI (co 6 (c : Int)))), (18, .int (zI (vdC co (c : Int)))), (19, .int (zI (wsC co (c : Int) 1))), (20, .int (zI (wsC co (c : Int) (-1)))), (21, .int (zI (mgC co (c : Int)))), (22, .int (zI 0)), (23, .int (zI (-30000))), (24, .int (zI 0)), (25, .ref b)] [.int (zI (co 1 (i : Int)))]
    have hb_4 := hO.b1 (i : Int)
    refine v_iload X dL_law_279 281 rfl 16 rfl ?_
    have hb_6 := hO.b1 (c : Int)
    refine v_icmp_ne X (by omega) (by omega) dL_law_281 284 297 rfl (by decide) (fun c_5 => ?_) (fun c_5 => ?_)
    · skip
      refine v_iinc X dL_law_297 300 rfl 0 rfl (by decide) (L' := [(26, .int (zI ((i : Int) + 1))), (0, .ref (E 107 0)), (1, .ref x), (2, .int (zI t)), (3, .int (zI (co 0 0))), (4, .int (zI (co 0 1))), (5, .int (zI a5)), (6, .int (zI a6)), (7, .int (zI a7)), (8, .int (zI a8)), (9, .int (zI a9)), (10, .int (zI a10)), (11, .ref y), (12, .ref (y + 1)), (13, .ref (y + 2)), (14, .int (zI (c : Int))), (15, .int (zI (co 1 (c : Int)))), (16, .int (zI (co 2 (c : Int)))), (17, .int (zI (co 6 (c : Int)))), (18, .int (zI (vdC co (c : Int)))), (19, .int (zI (wsC co (c : Int) 1))), (20, .int (zI (wsC co (c : Int) (-1)))), (21, .int (zI (mgC co (c : Int)))), (22, .int (zI 0)), (23, .int (zI (-30000))), (24, .int (zI 0)), (25, .ref b)]) rfl ?_
      refine v_goto X dL_law_300 266 (by decide) ?_
      have hb_7 := hO.bw
      have hb_8 := hO.b2 (c : Int)
      have hb_9 := hO.b6 (c : Int)
      exact V_L (L' := [(26, .int (zI ((i + 1 : Nat) : Int))), (0, .ref (E 107 0)), (1, .ref x), (2, .int (zI t)), (3, .int (zI (co 0 0))), (4, .int (zI (co 0 1))), (5, .int (zI a5)), (6, .int (zI a6)), (7, .int (zI a7)), (8, .int (zI a8)), (9, .int (zI a9)), (10, .int (zI a10)), (11, .ref y), (12, .ref (y + 1)), (13, .ref (y + 2)), (14, .int (zI (c : Int))), (15, .int (zI (co 1 (c : Int)))), (16, .int (zI (co 2 (c : Int)))), (17, .int (zI (co 6 (c : Int)))), (18, .int (zI (vdC co (c : Int)))), (19, .int (zI (wsC co (c : Int) 1))), (20, .int (zI (wsC co (c : Int) (-1)))), (21, .int (zI (mgC co (c : Int)))), (22, .int (zI 0)), (23, .int (zI (-30000))), (24, .int (zI 0)), (25, .ref b)]) (LC (vz (by omega)) (LC rfl (LC rfl (LC rfl (LC rfl (LC rfl (LC rfl (LC rfl (LC rfl (LC rfl (LC rfl (LC rfl (LC rfl (LC rfl (LC rfl (LC rfl (LC rfl (LC rfl (LC rfl (LC rfl (LC rfl (LC rfl (LC rfl (LC rfl (LC rfl (LC rfl (LC rfl rfl))))))))))))))))))))))))))) (ih_i (by omega) _ _ hM h_cm h_co h_hw h_w h_sn h_mt h_sq h_ls)
    · skip
      refine v_aload_n X dL_law_284 285 rfl 2 rfl ?_
      refine v_iload X dL_law_285 287 rfl 0 rfl ?_
      refine v_rdV X hM.C (PW.app h_cm.1 h_co.1) (c_X9_offenceOf l E x co 0 (-1) (-1) 0 (i : Int) hO (by omega) (by omega)) kvX9_offenceOf kiX9_offenceOf kl_L_142 rfl rfl (As := [.int (zI (i : Int))]) rfl rfl (rm_law0 rfl (by omega) (by omega)) dL_law_287 290 rfl ?_
      show V p l e room_1 s m args below meth cd Q 32 H1 lo1 kq nq 290 [(26, .int (zI (i : Int))), (0, .ref (E 107 0)), (1, .ref x), (2, .int (zI t)), (3, .int (zI (co 0 0))), (4, .int (zI (co 0 1))), (5, .int (zI a5)), (6, .int (zI a6)), (7, .int (zI a7)), (8, .int (zI a8)), (9, .int (zI a9)), (10, .int (zI a10)), (11, .ref y), (12, .ref (y + 1)), (13, .ref (y + 2)), (14, .int (zI (c : Int))), (15, .int (zI (co 1 (c : Int)))), (16, .int (zI (co 2 (c : Int)))), (17, .int (zI (co 6 (c : Int)))), (18, .int (zI (vdC co (c : Int)))), (19, .int (zI (wsC co (c : Int) 1))), (20, .int (zI (wsC co (c : Int) (-1)))), (21, .int (zI (mgC co (c : Int)))), (22, .int (zI 0)), (23, .int (zI (-30000))), (24, .int (zI 0)), (25, .ref b)] [.int (zI (co 2 (i : Int)))]
      have hb_10 := hO.b2 (i : Int)
      refine v_iload X dL_law_290 292 rfl 17 rfl ?_
      have hb_12 := hO.b2 (c : Int)
      refine v_icmp_ne X (by omega) (by omega) dL_law_292 295 297 rfl (by decide) (fun c_11 => ?_) (fun c_11 => ?_)
      · skip
        refine v_iinc X dL_law_297 300 rfl 0 rfl (by decide) (L' := [(26, .int (zI ((i : Int) + 1))), (0, .ref (E 107 0)), (1, .ref x), (2, .int (zI t)), (3, .int (zI (co 0 0))), (4, .int (zI (co 0 1))), (5, .int (zI a5)), (6, .int (zI a6)), (7, .int (zI a7)), (8, .int (zI a8)), (9, .int (zI a9)), (10, .int (zI a10)), (11, .ref y), (12, .ref (y + 1)), (13, .ref (y + 2)), (14, .int (zI (c : Int))), (15, .int (zI (co 1 (c : Int)))), (16, .int (zI (co 2 (c : Int)))), (17, .int (zI (co 6 (c : Int)))), (18, .int (zI (vdC co (c : Int)))), (19, .int (zI (wsC co (c : Int) 1))), (20, .int (zI (wsC co (c : Int) (-1)))), (21, .int (zI (mgC co (c : Int)))), (22, .int (zI 0)), (23, .int (zI (-30000))), (24, .int (zI 0)), (25, .ref b)]) rfl ?_
        refine v_goto X dL_law_300 266 (by decide) ?_
        have hb_13 := hO.bw
        have hb_14 := hO.b6 (c : Int)
        exact V_L (L' := [(26, .int (zI ((i + 1 : Nat) : Int))), (0, .ref (E 107 0)), (1, .ref x), (2, .int (zI t)), (3, .int (zI (co 0 0))), (4, .int (zI (co 0 1))), (5, .int (zI a5)), (6, .int (zI a6)), (7, .int (zI a7)), (8, .int (zI a8)), (9, .int (zI a9)), (10, .int (zI a10)), (11, .ref y), (12, .ref (y + 1)), (13, .ref (y + 2)), (14, .int (zI (c : Int))), (15, .int (zI (co 1 (c : Int)))), (16, .int (zI (co 2 (c : Int)))), (17, .int (zI (co 6 (c : Int)))), (18, .int (zI (vdC co (c : Int)))), (19, .int (zI (wsC co (c : Int) 1))), (20, .int (zI (wsC co (c : Int) (-1)))), (21, .int (zI (mgC co (c : Int)))), (22, .int (zI 0)), (23, .int (zI (-30000))), (24, .int (zI 0)), (25, .ref b)]) (LC (vz (by omega)) (LC rfl (LC rfl (LC rfl (LC rfl (LC rfl (LC rfl (LC rfl (LC rfl (LC rfl (LC rfl (LC rfl (LC rfl (LC rfl (LC rfl (LC rfl (LC rfl (LC rfl (LC rfl (LC rfl (LC rfl (LC rfl (LC rfl (LC rfl (LC rfl (LC rfl (LC rfl rfl))))))))))))))))))))))))))) (ih_i (by omega) _ _ hM h_cm h_co h_hw h_w h_sn h_mt h_sq h_ls)
      · skip
        exfalso; exact hU (i : Int) (c : Int) (by omega) (by omega) (by omega) ⟨by omega, by omega⟩
set_option maxHeartbeats 4000000 in
set_option maxRecDepth 20000 in
theorem sg_chk (hl : l.stackTraces = false) (X : CF p m cd cL_law 32 s args RL) {x : Nat} {y : Nat} {v : Nat} {co : Nat → Int → Int} {T : List Int} {t : Int} {sF : Int → Int} {mF : Int → Nat} {qF : Int → Int} {a5 : Int} {a6 : Int} {a7 : Int} {a8 : Int} {a9 : Int} {a10 : Int} {c : Nat} {b : Nat} (hx : s.heap.size ≤ x) (hD : InvD co) (hO : OkC co) (hU : UqI co) (hy : x + 334 ≤ y) (hvy : v < y ∨ y + 3 ≤ v) (hn0 : co 0 0 ≤ 9) (hn1 : 4 ≤ co 0 1 ∧ co 0 1 ≤ 7) (hyb : y + 3 ≤ b) (hvb : v < b) (hc : (c : Int) < co 0 0) (hM : MS E [] s H lo) (h_cm : PR E x [(x, .inr (11, [.ref (x + 1), .ref (x + 29), .ref (x + 57), .ref (x + 85), .ref (x + 311), .ref (x + 314), .ref (x + 319), .ref (x + 332), .int (zI 0), .int (zI (-1)), .int (zI (-1)), .int (zI 0)]))] H) (h_co : PR E (x + 1) (courtW E (x + 1) co) H) (h_hw : HW E x H) (h_w : RW E x v T H) (h_sn : PR E y [(y, .inl (E 102 0, 6, .inl (zA sF)))] H) (h_mt : PR E (y + 1) [(y + 1, .inl (E 102 0, 8, .inl (zA (nZ mF))))] H) (h_sq : PR E (y + 2) [(y + 2, .inl (E 102 0, 8, .inl (zA qF)))] H) (h_ls : StrW E b (hdT co (c : Int)) H) (hk : kq + 1 ≤ 683119) (hn : nq + 6 ≤ 7044570) (kk : ∀ (H1 : Heap) (lo1 : List Loc), MS E [] s H1 lo1 → PR E x [(x, .inr (11, [.ref (x + 1), .ref (x + 29), .ref (x + 57), .ref (x + 85), .ref (x + 311), .ref (x + 314), .ref (x + 319), .ref (x + 332), .int (zI 0), .int (zI (-1)), .int (zI (-1)), .int (zI 0)]))] H1 → PR E (x + 1) (courtW E (x + 1) co) H1 → HW E x H1 → RW E x v T H1 → PR E y [(y, .inl (E 102 0, 6, .inl (zA sF)))] H1 → PR E (y + 1) [(y + 1, .inl (E 102 0, 8, .inl (zA (nZ mF))))] H1 → PR E (y + 2) [(y + 2, .inl (E 102 0, 8, .inl (zA qF)))] H1 → StrW E b (hdT co (c : Int)) H1 → V p l e room_1 s m args below meth cd Q 32 H1 lo1 (kq + 1) (nq + 6) 482 [(0, .ref (E 107 0)), (1, .ref x), (2, .int (zI t)), (3, .int (zI (co 0 0))), (4, .int (zI (co 0 1))), (5, .int (zI a5)), (6, .int (zI a6)), (7, .int (zI a7)), (8, .int (zI a8)), (9, .int (zI a9)), (10, .int (zI a10)), (11, .ref y), (12, .ref (y + 1)), (13, .ref (y + 2)), (14, .int (zI (c : Int))), (15, .int (zI (co 1 (c : Int)))), (16, .int (zI (co 2 (c : Int)))), (17, .int (zI (co 6 (c : Int)))), (18, .int (zI (vdC co (c : Int)))), (19, .int (zI (wsC co (c : Int) 1))), (20, .int (zI (wsC co (c : Int) (-1)))), (21, .int (zI (mgC co (c : Int)))), (22, .int (zI 0)), (23, .int (zI (-30000))), (24, .int (zI 0)), (25, .ref b)] []) : V p l e room_1 s m args below meth cd Q 32 H lo kq nq 303 [(0, .ref (E 107 0)), (1, .ref x), (2, .int (zI t)), (3, .int (zI (co 0 0))), (4, .int (zI (co 0 1))), (5, .int (zI a5)), (6, .int (zI a6)), (7, .int (zI a7)), (8, .int (zI a8)), (9, .int (zI a9)), (10, .int (zI a10)), (11, .ref y), (12, .ref (y + 1)), (13, .ref (y + 2)), (14, .int (zI (c : Int))), (15, .int (zI (co 1 (c : Int)))), (16, .int (zI (co 2 (c : Int)))), (17, .int (zI (co 6 (c : Int)))), (18, .int (zI (vdC co (c : Int)))), (19, .int (zI (wsC co (c : Int) 1))), (20, .int (zI (wsC co (c : Int) (-1)))), (21, .int (zI (mgC co (c : Int)))), (22, .int (zI 0)), (23, .int (zI (-30000))), (24, .int (zI 0)), (25, .ref b)] [] := by
  have hvl := h_w.lt
  have hb0 := hO.b0
  have hbw := hO.bw
  have hvd := vd_b co (c : Int)
  have hws1 := wsC_b hO (c : Int) 1
  have hws2 := wsC_b hO (c : Int) (-1)
  have hmg := mgC_split hO hD.inv.ts (k := (c : Int)) (by omega) (by omega)
  have hmgb := mgC_b hO (c : Int)
  have hb3 := hO.b3 (c : Int)
  have hst := hD.inv.st.2 (c : Int) (by omega) hc
  have hcf := case_of hU (c := (c : Int)) (by omega) hc
  have hma := ma_inv hO (c : Int)
  have h3z := bz3 (a := co 3 (c : Int)) (by omega)
  refine v_aload_n X dL_law_303 304 rfl 1 rfl ?_
  refine v_iload X dL_law_304 306 rfl 15 rfl ?_
  refine v_iload X dL_law_306 308 rfl 16 rfl ?_
  have hb_1 := hO.b1 (c : Int)
  have hb_2 := hO.b2 (c : Int)
  have hb_3 := hO.b0
  refine v_rdV X hM.C (PW.app h_cm.1 h_co.1) (c_X9_caseOf l E x co 0 (-1) (-1) 0 (co 1 (c : Int)) (co 2 (c : Int)) hO (by omega) (by omega) (by omega) (by rw [hcf]; omega)) kvX9_caseOf kiX9_caseOf kl_L_183 rfl rfl (As := [.int (zI (co 1 (c : Int))), .int (zI (co 2 (c : Int)))]) rfl rfl (rm_law0 rfl (by omega) (by omega)) dL_law_308 311 rfl ?_
  show V p l e room_1 s m args below meth cd Q 32 H lo kq nq 311 [(0, .ref (E 107 0)), (1, .ref x), (2, .int (zI t)), (3, .int (zI (co 0 0))), (4, .int (zI (co 0 1))), (5, .int (zI a5)), (6, .int (zI a6)), (7, .int (zI a7)), (8, .int (zI a8)), (9, .int (zI a9)), (10, .int (zI a10)), (11, .ref y), (12, .ref (y + 1)), (13, .ref (y + 2)), (14, .int (zI (c : Int))), (15, .int (zI (co 1 (c : Int)))), (16, .int (zI (co 2 (c : Int)))), (17, .int (zI (co 6 (c : Int)))), (18, .int (zI (vdC co (c : Int)))), (19, .int (zI (wsC co (c : Int) 1))), (20, .int (zI (wsC co (c : Int) (-1)))), (21, .int (zI (mgC co (c : Int)))), (22, .int (zI 0)), (23, .int (zI (-30000))), (24, .int (zI 0)), (25, .ref b)] [.int (zI (firstZ (fun j => co 1 j = (co 1 (c : Int)) ∧ co 2 j = (co 2 (c : Int))) (co 0 0).toNat))]
  refine v_iload X dL_law_311 313 rfl 14 rfl ?_
  refine v_icmp_ne X (by omega) (by omega) dL_law_313 316 480 rfl (by decide) (fun c_4 => ?_) (fun c_4 => ?_)
  · skip
    exfalso; exact c_4 hcf
  · skip
    suffices hJ316 : ∀ z9 : Int, z9 = bz (co 3 (c : Int) = 0) → V p l e room_1 s m args below meth cd Q 32 H lo kq nq 330 [(0, .ref (E 107 0)), (1, .ref x), (2, .int (zI t)), (3, .int (zI (co 0 0))), (4, .int (zI (co 0 1))), (5, .int (zI a5)), (6, .int (zI a6)), (7, .int (zI a7)), (8, .int (zI a8)), (9, .int (zI a9)), (10, .int (zI a10)), (11, .ref y), (12, .ref (y + 1)), (13, .ref (y + 2)), (14, .int (zI (c : Int))), (15, .int (zI (co 1 (c : Int)))), (16, .int (zI (co 2 (c : Int)))), (17, .int (zI (co 6 (c : Int)))), (18, .int (zI (vdC co (c : Int)))), (19, .int (zI (wsC co (c : Int) 1))), (20, .int (zI (wsC co (c : Int) (-1)))), (21, .int (zI (mgC co (c : Int)))), (22, .int (zI 0)), (23, .int (zI (-30000))), (24, .int (zI 0)), (25, .ref b)] [.int (zI z9)] by
      refine v_aload_n X dL_law_316 317 rfl 1 rfl ?_
      refine v_iload X dL_law_317 319 rfl 14 rfl ?_
      refine v_rdV X hM.C (PW.app h_cm.1 h_co.1) (c_X9_isOpen l E x co 0 (-1) (-1) 0 (c : Int) hO (by omega) (by omega)) kvX9_isOpen kiX9_isOpen kl_L_186 rfl rfl (As := [.int (zI (c : Int))]) rfl rfl (rm_law0 rfl (by omega) (by omega)) dL_law_319 322 rfl ?_
      show V p l e room_1 s m args below meth cd Q 32 H lo kq nq 322 [(0, .ref (E 107 0)), (1, .ref x), (2, .int (zI t)), (3, .int (zI (co 0 0))), (4, .int (zI (co 0 1))), (5, .int (zI a5)), (6, .int (zI a6)), (7, .int (zI a7)), (8, .int (zI a8)), (9, .int (zI a9)), (10, .int (zI a10)), (11, .ref y), (12, .ref (y + 1)), (13, .ref (y + 2)), (14, .int (zI (c : Int))), (15, .int (zI (co 1 (c : Int)))), (16, .int (zI (co 2 (c : Int)))), (17, .int (zI (co 6 (c : Int)))), (18, .int (zI (vdC co (c : Int)))), (19, .int (zI (wsC co (c : Int) 1))), (20, .int (zI (wsC co (c : Int) (-1)))), (21, .int (zI (mgC co (c : Int)))), (22, .int (zI 0)), (23, .int (zI (-30000))), (24, .int (zI 0)), (25, .ref b)] [.int (zI (bz (co 3 (c : Int) = 0)))]
      refine v_bif_eq X dL_law_322 325 329 rfl (by decide) (fun c_5 => ?_) (fun c_5 => ?_)
      · skip
        refine v_iconst X dL_law_329 330 rfl ?_
        exact hJ316 _ (by exact (bz_f (by omega)).symm)
      · skip
        refine v_iconst X dL_law_325 326 rfl ?_
        refine v_goto X dL_law_326 330 (by decide) ?_
        exact hJ316 _ (by exact (bz_t (by omega)).symm)
    intro z9 hz9
    subst hz9
    suffices hJ330 : ∀ z9 : Int, z9 = bz (co 3 (c : Int) = 1) → V p l e room_1 s m args below meth cd Q 32 H lo kq nq 344 [(0, .ref (E 107 0)), (1, .ref x), (2, .int (zI t)), (3, .int (zI (co 0 0))), (4, .int (zI (co 0 1))), (5, .int (zI a5)), (6, .int (zI a6)), (7, .int (zI a7)), (8, .int (zI a8)), (9, .int (zI a9)), (10, .int (zI a10)), (11, .ref y), (12, .ref (y + 1)), (13, .ref (y + 2)), (14, .int (zI (c : Int))), (15, .int (zI (co 1 (c : Int)))), (16, .int (zI (co 2 (c : Int)))), (17, .int (zI (co 6 (c : Int)))), (18, .int (zI (vdC co (c : Int)))), (19, .int (zI (wsC co (c : Int) 1))), (20, .int (zI (wsC co (c : Int) (-1)))), (21, .int (zI (mgC co (c : Int)))), (22, .int (zI 0)), (23, .int (zI (-30000))), (24, .int (zI 0)), (25, .ref b)] [.int (zI z9), .int (zI (bz ((co 3 (c : Int) = 0))))] by
      refine v_aload_n X dL_law_330 331 rfl 1 rfl ?_
      refine v_iload X dL_law_331 333 rfl 14 rfl ?_
      refine v_rdV X hM.C (PW.app h_cm.1 h_co.1) (c_X9_isDecided l E x co 0 (-1) (-1) 0 (c : Int) hO (by omega) (by omega)) kvX9_isDecided kiX9_isDecided kl_L_189 rfl rfl (As := [.int (zI (c : Int))]) rfl rfl (rm_law0 rfl (by omega) (by omega)) dL_law_333 336 rfl ?_
      show V p l e room_1 s m args below meth cd Q 32 H lo kq nq 336 [(0, .ref (E 107 0)), (1, .ref x), (2, .int (zI t)), (3, .int (zI (co 0 0))), (4, .int (zI (co 0 1))), (5, .int (zI a5)), (6, .int (zI a6)), (7, .int (zI a7)), (8, .int (zI a8)), (9, .int (zI a9)), (10, .int (zI a10)), (11, .ref y), (12, .ref (y + 1)), (13, .ref (y + 2)), (14, .int (zI (c : Int))), (15, .int (zI (co 1 (c : Int)))), (16, .int (zI (co 2 (c : Int)))), (17, .int (zI (co 6 (c : Int)))), (18, .int (zI (vdC co (c : Int)))), (19, .int (zI (wsC co (c : Int) 1))), (20, .int (zI (wsC co (c : Int) (-1)))), (21, .int (zI (mgC co (c : Int)))), (22, .int (zI 0)), (23, .int (zI (-30000))), (24, .int (zI 0)), (25, .ref b)] [.int (zI (bz (co 3 (c : Int) = 1))), .int (zI (bz ((co 3 (c : Int) = 0))))]
      refine v_bif_eq X dL_law_336 339 343 rfl (by decide) (fun c_6 => ?_) (fun c_6 => ?_)
      · skip
        refine v_iconst X dL_law_343 344 rfl ?_
        exact hJ330 _ (by exact (bz_f (by omega)).symm)
      · skip
        refine v_iconst X dL_law_339 340 rfl ?_
        refine v_goto X dL_law_340 344 (by decide) ?_
        exact hJ330 _ (by exact (bz_t (by omega)).symm)
    intro z9 hz9
    subst hz9
    refine v_iadd X dL_law_344 345 rfl ?_
    suffices hJ345 : ∀ z9 : Int, z9 = bz (co 3 (c : Int) = 2) → V p l e room_1 s m args below meth cd Q 32 H lo kq nq 359 [(0, .ref (E 107 0)), (1, .ref x), (2, .int (zI t)), (3, .int (zI (co 0 0))), (4, .int (zI (co 0 1))), (5, .int (zI a5)), (6, .int (zI a6)), (7, .int (zI a7)), (8, .int (zI a8)), (9, .int (zI a9)), (10, .int (zI a10)), (11, .ref y), (12, .ref (y + 1)), (13, .ref (y + 2)), (14, .int (zI (c : Int))), (15, .int (zI (co 1 (c : Int)))), (16, .int (zI (co 2 (c : Int)))), (17, .int (zI (co 6 (c : Int)))), (18, .int (zI (vdC co (c : Int)))), (19, .int (zI (wsC co (c : Int) 1))), (20, .int (zI (wsC co (c : Int) (-1)))), (21, .int (zI (mgC co (c : Int)))), (22, .int (zI 0)), (23, .int (zI (-30000))), (24, .int (zI 0)), (25, .ref b)] [.int (zI z9), .int (zI (bz ((co 3 (c : Int) = 0)) + bz ((co 3 (c : Int) = 1))))] by
      refine v_aload_n X dL_law_345 346 rfl 1 rfl ?_
      refine v_iload X dL_law_346 348 rfl 14 rfl ?_
      refine v_rdV X hM.C (PW.app h_cm.1 h_co.1) (c_X9_isClosed l E x co 0 (-1) (-1) 0 (c : Int) hO (by omega) (by omega)) kvX9_isClosed kiX9_isClosed kl_L_172 rfl rfl (As := [.int (zI (c : Int))]) rfl rfl (rm_law0 rfl (by omega) (by omega)) dL_law_348 351 rfl ?_
      show V p l e room_1 s m args below meth cd Q 32 H lo kq nq 351 [(0, .ref (E 107 0)), (1, .ref x), (2, .int (zI t)), (3, .int (zI (co 0 0))), (4, .int (zI (co 0 1))), (5, .int (zI a5)), (6, .int (zI a6)), (7, .int (zI a7)), (8, .int (zI a8)), (9, .int (zI a9)), (10, .int (zI a10)), (11, .ref y), (12, .ref (y + 1)), (13, .ref (y + 2)), (14, .int (zI (c : Int))), (15, .int (zI (co 1 (c : Int)))), (16, .int (zI (co 2 (c : Int)))), (17, .int (zI (co 6 (c : Int)))), (18, .int (zI (vdC co (c : Int)))), (19, .int (zI (wsC co (c : Int) 1))), (20, .int (zI (wsC co (c : Int) (-1)))), (21, .int (zI (mgC co (c : Int)))), (22, .int (zI 0)), (23, .int (zI (-30000))), (24, .int (zI 0)), (25, .ref b)] [.int (zI (bz (co 3 (c : Int) = 2))), .int (zI (bz ((co 3 (c : Int) = 0)) + bz ((co 3 (c : Int) = 1))))]
      refine v_bif_eq X dL_law_351 354 358 rfl (by decide) (fun c_7 => ?_) (fun c_7 => ?_)
      · skip
        refine v_iconst X dL_law_358 359 rfl ?_
        exact hJ345 _ (by exact (bz_f (by omega)).symm)
      · skip
        refine v_iconst X dL_law_354 355 rfl ?_
        refine v_goto X dL_law_355 359 (by decide) ?_
        exact hJ345 _ (by exact (bz_t (by omega)).symm)
    intro z9 hz9
    subst hz9
    refine v_iadd X dL_law_359 360 rfl ?_
    refine v_iconst X dL_law_360 361 rfl ?_
    have hb_9 := hO.b3 (c : Int)
    refine v_icmp_ne X (by omega) (by omega) dL_law_361 364 480 rfl (by decide) (fun c_8 => ?_) (fun c_8 => ?_)
    · skip
      exfalso; omega
    · skip
      refine v_aload_n X dL_law_364 365 rfl 1 rfl ?_
      refine v_iload X dL_law_365 367 rfl 14 rfl ?_
      refine v_rdV X hM.C (PW.app h_cm.1 h_co.1) (c_X9_isOpen l E x co 0 (-1) (-1) 0 (c : Int) hO (by omega) (by omega)) kvX9_isOpen kiX9_isOpen kl_L_186 rfl rfl (As := [.int (zI (c : Int))]) rfl rfl (rm_law0 rfl (by omega) (by omega)) dL_law_367 370 rfl ?_
      show V p l e room_1 s m args below meth cd Q 32 H lo kq nq 370 [(0, .ref (E 107 0)), (1, .ref x), (2, .int (zI t)), (3, .int (zI (co 0 0))), (4, .int (zI (co 0 1))), (5, .int (zI a5)), (6, .int (zI a6)), (7, .int (zI a7)), (8, .int (zI a8)), (9, .int (zI a9)), (10, .int (zI a10)), (11, .ref y), (12, .ref (y + 1)), (13, .ref (y + 2)), (14, .int (zI (c : Int))), (15, .int (zI (co 1 (c : Int)))), (16, .int (zI (co 2 (c : Int)))), (17, .int (zI (co 6 (c : Int)))), (18, .int (zI (vdC co (c : Int)))), (19, .int (zI (wsC co (c : Int) 1))), (20, .int (zI (wsC co (c : Int) (-1)))), (21, .int (zI (mgC co (c : Int)))), (22, .int (zI 0)), (23, .int (zI (-30000))), (24, .int (zI 0)), (25, .ref b)] [.int (zI (bz (co 3 (c : Int) = 0)))]
      suffices hJ370 : ∀ z9 : Int, z9 = bz (vdC co (c : Int) = -10000) → V p l e room_1 s m args below meth cd Q 32 H lo kq nq 383 [(0, .ref (E 107 0)), (1, .ref x), (2, .int (zI t)), (3, .int (zI (co 0 0))), (4, .int (zI (co 0 1))), (5, .int (zI a5)), (6, .int (zI a6)), (7, .int (zI a7)), (8, .int (zI a8)), (9, .int (zI a9)), (10, .int (zI a10)), (11, .ref y), (12, .ref (y + 1)), (13, .ref (y + 2)), (14, .int (zI (c : Int))), (15, .int (zI (co 1 (c : Int)))), (16, .int (zI (co 2 (c : Int)))), (17, .int (zI (co 6 (c : Int)))), (18, .int (zI (vdC co (c : Int)))), (19, .int (zI (wsC co (c : Int) 1))), (20, .int (zI (wsC co (c : Int) (-1)))), (21, .int (zI (mgC co (c : Int)))), (22, .int (zI 0)), (23, .int (zI (-30000))), (24, .int (zI 0)), (25, .ref b)] [.int (zI z9), .int (zI (bz (co 3 (c : Int) = 0)))] by
        refine v_iload X dL_law_370 372 rfl 18 rfl ?_
        refine v_sipush X dL_law_372 375 rfl rfl ?_
        refine v_icmp_ne X (by omega) (by omega) dL_law_375 378 382 rfl (by decide) (fun c_10 => ?_) (fun c_10 => ?_)
        · skip
          refine v_iconst X dL_law_382 383 rfl ?_
          exact hJ370 _ (by exact (bz_f (by omega)).symm)
        · skip
          refine v_iconst X dL_law_378 379 rfl ?_
          refine v_goto X dL_law_379 383 (by decide) ?_
          exact hJ370 _ (by exact (bz_t (by omega)).symm)
      intro z9 hz9
      subst hz9
      refine v_icmp_ne X (by have := bz_rg (φ := co 3 (c : Int) = 0); omega) (by have := bz_rg (φ := (vdC co (c : Int) = -10000)); omega) dL_law_383 386 480 rfl (by decide) (fun c_11 => ?_) (fun c_11 => ?_)
      · skip
        exfalso; exact c_11 (bz_iff vd_st.symm)
      · skip
        refine v_iload X dL_law_386 388 rfl 17 rfl ?_
        refine v_bipush X dL_law_388 390 rfl rfl ?_
        have hb_13 := hO.b6 (c : Int)
        refine v_icmp_gt X (by omega) (by omega) dL_law_390 393 480 rfl (by decide) (fun c_12 => ?_) (fun c_12 => ?_)
        · skip
          exfalso; omega
        · skip
          refine v_aload_n X dL_law_393 394 rfl 1 rfl ?_
          refine v_iload X dL_law_394 396 rfl 14 rfl ?_
          refine v_rdV X hM.C (PW.app h_cm.1 h_co.1) (c_X9_appealCount l E x co 0 (-1) (-1) 0 (c : Int) hO (by omega) (by omega)) kvX9_appealCount kiX9_appealCount kl_L_192 rfl rfl (As := [.int (zI (c : Int))]) rfl rfl (rm_law0 rfl (by omega) (by omega)) dL_law_396 399 rfl ?_
          show V p l e room_1 s m args below meth cd Q 32 H lo kq nq 399 [(0, .ref (E 107 0)), (1, .ref x), (2, .int (zI t)), (3, .int (zI (co 0 0))), (4, .int (zI (co 0 1))), (5, .int (zI a5)), (6, .int (zI a6)), (7, .int (zI a7)), (8, .int (zI a8)), (9, .int (zI a9)), (10, .int (zI a10)), (11, .ref y), (12, .ref (y + 1)), (13, .ref (y + 2)), (14, .int (zI (c : Int))), (15, .int (zI (co 1 (c : Int)))), (16, .int (zI (co 2 (c : Int)))), (17, .int (zI (co 6 (c : Int)))), (18, .int (zI (vdC co (c : Int)))), (19, .int (zI (wsC co (c : Int) 1))), (20, .int (zI (wsC co (c : Int) (-1)))), (21, .int (zI (mgC co (c : Int)))), (22, .int (zI 0)), (23, .int (zI (-30000))), (24, .int (zI 0)), (25, .ref b)] [.int (zI (co 5 (c : Int)))]
          have hb_14 := hO.b5 (c : Int)
          refine v_iconst X dL_law_399 400 rfl ?_
          refine v_icmp_gt X (by omega) (by omega) dL_law_400 403 480 rfl (by decide) (fun c_15 => ?_) (fun c_15 => ?_)
          · skip
            exfalso; omega
          · skip
            refine v_aload_n X dL_law_403 404 rfl 1 rfl ?_
            refine v_iload X dL_law_404 406 rfl 14 rfl ?_
            refine v_rdV X hM.C (PW.app h_cm.1 h_co.1) (c_X9_appealCount l E x co 0 (-1) (-1) 0 (c : Int) hO (by omega) (by omega)) kvX9_appealCount kiX9_appealCount kl_L_192 rfl rfl (As := [.int (zI (c : Int))]) rfl rfl (rm_law0 rfl (by omega) (by omega)) dL_law_406 409 rfl ?_
            show V p l e room_1 s m args below meth cd Q 32 H lo kq nq 409 [(0, .ref (E 107 0)), (1, .ref x), (2, .int (zI t)), (3, .int (zI (co 0 0))), (4, .int (zI (co 0 1))), (5, .int (zI a5)), (6, .int (zI a6)), (7, .int (zI a7)), (8, .int (zI a8)), (9, .int (zI a9)), (10, .int (zI a10)), (11, .ref y), (12, .ref (y + 1)), (13, .ref (y + 2)), (14, .int (zI (c : Int))), (15, .int (zI (co 1 (c : Int)))), (16, .int (zI (co 2 (c : Int)))), (17, .int (zI (co 6 (c : Int)))), (18, .int (zI (vdC co (c : Int)))), (19, .int (zI (wsC co (c : Int) 1))), (20, .int (zI (wsC co (c : Int) (-1)))), (21, .int (zI (mgC co (c : Int)))), (22, .int (zI 0)), (23, .int (zI (-30000))), (24, .int (zI 0)), (25, .ref b)] [.int (zI (co 5 (c : Int)))]
            refine v_iconst X dL_law_409 410 rfl ?_
            refine v_icmp_ne X (by omega) (by omega) dL_law_410 413 422 rfl (by decide) (fun c_16 => ?_) (fun c_16 => ?_)
            · skip
              refine v_aload_n X dL_law_422 423 rfl 1 rfl ?_
              refine v_iload X dL_law_423 425 rfl 14 rfl ?_
              refine v_iload X dL_law_425 427 rfl 17 rfl ?_
              refine v_mwS X hM (w_X9_witnessAt_1_t l hl E x co 0 (-1) (-1) 0 (c : Int) (co 6 (c : Int)) hO (by omega) (by omega) (by omega) (by omega)) kwL_witnessAt ksL_witnessAt kl_L_195 (As := [.ref x, .int (zI (c : Int)), .int (zI (co 6 (c : Int)))]) rfl rfl (rm_lawW rfl (by omega) (by omega)) dL_law_427 430 rfl (k' := kq + 1) (n' := nq + 6) rfl rfl (fun q hq => hq.elim) ⟨h_cm, h_co⟩ (fun rv H17 lo17 hM hF hpo => ?_)
              subst hpo
              replace h_cm := h_cm.kept hF 1 rfl (fun q _ _ h => h.elim)
              replace h_co := h_co.kept hF 28 rfl (fun q _ _ h => h.elim)
              replace h_hw := h_hw.kept hF (fun q _ _ h => h.elim)
              replace h_w := h_w.kept hF (fun q _ h => h.elim)
              replace h_sn := h_sn.kept hF 1 rfl (fun q _ _ h => h.elim)
              replace h_mt := h_mt.kept hF 1 rfl (fun q _ _ h => h.elim)
              replace h_sq := h_sq.kept hF 1 rfl (fun q _ _ h => h.elim)
              replace h_ls := h_ls.kept hF (fun q _ _ h => h.elim)
              show V p l e room_1 s m args below meth cd Q 32 H17 lo17 (kq + 1) (nq + 6) 430 [(0, .ref (E 107 0)), (1, .ref x), (2, .int (zI t)), (3, .int (zI (co 0 0))), (4, .int (zI (co 0 1))), (5, .int (zI a5)), (6, .int (zI a6)), (7, .int (zI a7)), (8, .int (zI a8)), (9, .int (zI a9)), (10, .int (zI a10)), (11, .ref y), (12, .ref (y + 1)), (13, .ref (y + 2)), (14, .int (zI (c : Int))), (15, .int (zI (co 1 (c : Int)))), (16, .int (zI (co 2 (c : Int)))), (17, .int (zI (co 6 (c : Int)))), (18, .int (zI (vdC co (c : Int)))), (19, .int (zI (wsC co (c : Int) 1))), (20, .int (zI (wsC co (c : Int) (-1)))), (21, .int (zI (mgC co (c : Int)))), (22, .int (zI 0)), (23, .int (zI (-30000))), (24, .int (zI 0)), (25, .ref b)] [.int (zI (-30000))]
              refine v_sipush X dL_law_430 433 rfl rfl ?_
              refine v_icmp_ne X (by omega) (by omega) dL_law_433 436 480 rfl (by decide) (fun c_18 => ?_) (fun c_18 => ?_)
              · skip
                exfalso; omega
              · skip
                refine v_aload_n X dL_law_436 437 rfl 1 rfl ?_
                refine v_iload X dL_law_437 439 rfl 14 rfl ?_
                refine v_rdV X hM.C (PW.app h_cm.1 h_co.1) (c_X9_prosecutionWeight l E x co 0 (-1) (-1) 0 (c : Int) hO (by omega) (by omega)) kvX9_prosecutionWeight kiX9_prosecutionWeight kl_L_197 rfl rfl (As := [.int (zI (c : Int))]) rfl rfl (rm_law0 rfl (by omega) (by omega)) dL_law_439 442 rfl ?_
                show V p l e room_1 s m args below meth cd Q 32 H17 lo17 (kq + 1) (nq + 6) 442 [(0, .ref (E 107 0)), (1, .ref x), (2, .int (zI t)), (3, .int (zI (co 0 0))), (4, .int (zI (co 0 1))), (5, .int (zI a5)), (6, .int (zI a6)), (7, .int (zI a7)), (8, .int (zI a8)), (9, .int (zI a9)), (10, .int (zI a10)), (11, .ref y), (12, .ref (y + 1)), (13, .ref (y + 2)), (14, .int (zI (c : Int))), (15, .int (zI (co 1 (c : Int)))), (16, .int (zI (co 2 (c : Int)))), (17, .int (zI (co 6 (c : Int)))), (18, .int (zI (vdC co (c : Int)))), (19, .int (zI (wsC co (c : Int) 1))), (20, .int (zI (wsC co (c : Int) (-1)))), (21, .int (zI (mgC co (c : Int)))), (22, .int (zI 0)), (23, .int (zI (-30000))), (24, .int (zI 0)), (25, .ref b)] [.int (zI (sumZ (fun j => if sdC co (c : Int) j = 1 then wtC co (c : Int) j else 0) (co 6 (c : Int)).toNat))]
                refine V_S (st' := [.int (zI (wsC co (c : Int) 1))]) (by rfl) ?_
                refine v_iload X dL_law_442 444 rfl 19 rfl ?_
                refine v_icmp_ne X (by omega) (by omega) dL_law_444 447 480 rfl (by decide) (fun c_19 => ?_) (fun c_19 => ?_)
                · skip
                  exfalso; exact c_19 rfl
                · skip
                  refine v_aload_n X dL_law_447 448 rfl 1 rfl ?_
                  refine v_iload X dL_law_448 450 rfl 14 rfl ?_
                  refine v_rdV X hM.C (PW.app h_cm.1 h_co.1) (c_X9_defenceWeight l E x co 0 (-1) (-1) 0 (c : Int) hO (by omega) (by omega)) kvX9_defenceWeight kiX9_defenceWeight kl_L_200 rfl rfl (As := [.int (zI (c : Int))]) rfl rfl (rm_law0 rfl (by omega) (by omega)) dL_law_450 453 rfl ?_
                  show V p l e room_1 s m args below meth cd Q 32 H17 lo17 (kq + 1) (nq + 6) 453 [(0, .ref (E 107 0)), (1, .ref x), (2, .int (zI t)), (3, .int (zI (co 0 0))), (4, .int (zI (co 0 1))), (5, .int (zI a5)), (6, .int (zI a6)), (7, .int (zI a7)), (8, .int (zI a8)), (9, .int (zI a9)), (10, .int (zI a10)), (11, .ref y), (12, .ref (y + 1)), (13, .ref (y + 2)), (14, .int (zI (c : Int))), (15, .int (zI (co 1 (c : Int)))), (16, .int (zI (co 2 (c : Int)))), (17, .int (zI (co 6 (c : Int)))), (18, .int (zI (vdC co (c : Int)))), (19, .int (zI (wsC co (c : Int) 1))), (20, .int (zI (wsC co (c : Int) (-1)))), (21, .int (zI (mgC co (c : Int)))), (22, .int (zI 0)), (23, .int (zI (-30000))), (24, .int (zI 0)), (25, .ref b)] [.int (zI (sumZ (fun j => if sdC co (c : Int) j = (-1) then wtC co (c : Int) j else 0) (co 6 (c : Int)).toNat))]
                  refine V_S (st' := [.int (zI (wsC co (c : Int) (-1)))]) (by rfl) ?_
                  refine v_iload X dL_law_453 455 rfl 20 rfl ?_
                  refine v_icmp_ne X (by omega) (by omega) dL_law_455 458 480 rfl (by decide) (fun c_20 => ?_) (fun c_20 => ?_)
                  · skip
                    exfalso; exact c_20 rfl
                  · skip
                    refine v_aload_n X dL_law_458 459 rfl 1 rfl ?_
                    refine v_iload X dL_law_459 461 rfl 14 rfl ?_
                    refine v_rdV X hM.C (PW.app h_cm.1 h_co.1) (c_X9_margin l E x co 0 (-1) (-1) 0 (c : Int) hO (by omega) (by omega)) kvX9_margin kiX9_margin kl_L_203 rfl rfl (As := [.int (zI (c : Int))]) rfl rfl (rm_law0 rfl (by omega) (by omega)) dL_law_461 464 rfl ?_
                    show V p l e room_1 s m args below meth cd Q 32 H17 lo17 (kq + 1) (nq + 6) 464 [(0, .ref (E 107 0)), (1, .ref x), (2, .int (zI t)), (3, .int (zI (co 0 0))), (4, .int (zI (co 0 1))), (5, .int (zI a5)), (6, .int (zI a6)), (7, .int (zI a7)), (8, .int (zI a8)), (9, .int (zI a9)), (10, .int (zI a10)), (11, .ref y), (12, .ref (y + 1)), (13, .ref (y + 2)), (14, .int (zI (c : Int))), (15, .int (zI (co 1 (c : Int)))), (16, .int (zI (co 2 (c : Int)))), (17, .int (zI (co 6 (c : Int)))), (18, .int (zI (vdC co (c : Int)))), (19, .int (zI (wsC co (c : Int) 1))), (20, .int (zI (wsC co (c : Int) (-1)))), (21, .int (zI (mgC co (c : Int)))), (22, .int (zI 0)), (23, .int (zI (-30000))), (24, .int (zI 0)), (25, .ref b)] [.int (zI (mgC co (c : Int)))]
                    refine v_iload X dL_law_464 466 rfl 21 rfl ?_
                    refine v_icmp_ne X (by omega) (by omega) dL_law_466 469 480 rfl (by decide) (fun c_21 => ?_) (fun c_21 => ?_)
                    · skip
                      exfalso; exact c_21 rfl
                    · skip
                      refine v_aload_n X dL_law_469 470 rfl 1 rfl ?_
                      refine v_iload X dL_law_470 472 rfl 14 rfl ?_
                      refine v_rdV X hM.C (PW.app h_cm.1 h_co.1) (c_X9_marginByCredibility l E x co 0 (-1) (-1) 0 (c : Int) hO (by omega) (by omega)) kvX9_marginByCredibility kiX9_marginByCredibility kl_L_206 rfl rfl (As := [.int (zI (c : Int))]) rfl rfl (rm_law0 rfl (by omega) (by omega)) dL_law_472 475 rfl ?_
                      show V p l e room_1 s m args below meth cd Q 32 H17 lo17 (kq + 1) (nq + 6) 475 [(0, .ref (E 107 0)), (1, .ref x), (2, .int (zI t)), (3, .int (zI (co 0 0))), (4, .int (zI (co 0 1))), (5, .int (zI a5)), (6, .int (zI a6)), (7, .int (zI a7)), (8, .int (zI a8)), (9, .int (zI a9)), (10, .int (zI a10)), (11, .ref y), (12, .ref (y + 1)), (13, .ref (y + 2)), (14, .int (zI (c : Int))), (15, .int (zI (co 1 (c : Int)))), (16, .int (zI (co 2 (c : Int)))), (17, .int (zI (co 6 (c : Int)))), (18, .int (zI (vdC co (c : Int)))), (19, .int (zI (wsC co (c : Int) 1))), (20, .int (zI (wsC co (c : Int) (-1)))), (21, .int (zI (mgC co (c : Int)))), (22, .int (zI 0)), (23, .int (zI (-30000))), (24, .int (zI 0)), (25, .ref b)] [.int (zI (mlC co (c : Int)))]
                      refine v_iload X dL_law_475 477 rfl 21 rfl ?_
                      refine v_icmp_eq X (by omega) (by omega) dL_law_477 480 482 rfl (by decide) (fun c_22 => ?_) (fun c_22 => ?_)
                      · skip
                        refine v_widen (k' := kq + 1) (n' := nq + 6) (by omega) (by omega) ?_
                        refine v_locals [0, 1, 2, 3, 4, 5, 6, 7, 8, 9, 10, 11, 12, 13, 14, 15, 16, 17, 18, 19, 20, 21, 22, 23, 24, 25] (L' := [(0, .ref (E 107 0)), (1, .ref x), (2, .int (zI t)), (3, .int (zI (co 0 0))), (4, .int (zI (co 0 1))), (5, .int (zI a5)), (6, .int (zI a6)), (7, .int (zI a7)), (8, .int (zI a8)), (9, .int (zI a9)), (10, .int (zI a10)), (11, .ref y), (12, .ref (y + 1)), (13, .ref (y + 2)), (14, .int (zI (c : Int))), (15, .int (zI (co 1 (c : Int)))), (16, .int (zI (co 2 (c : Int)))), (17, .int (zI (co 6 (c : Int)))), (18, .int (zI (vdC co (c : Int)))), (19, .int (zI (wsC co (c : Int) 1))), (20, .int (zI (wsC co (c : Int) (-1)))), (21, .int (zI (mgC co (c : Int)))), (22, .int (zI 0)), (23, .int (zI (-30000))), (24, .int (zI 0)), (25, .ref b)]) rfl ?_
                        exact kk _ _ hM h_cm h_co h_hw h_w h_sn h_mt h_sq h_ls
                      · skip
                        exfalso; exact c_22 hma.symm
            · skip
              refine v_aload_n X dL_law_413 414 rfl 1 rfl ?_
              refine v_iload X dL_law_414 416 rfl 14 rfl ?_
              refine v_rdV X hM.C (PW.app h_cm.1 h_co.1) (c_X9_isDecided l E x co 0 (-1) (-1) 0 (c : Int) hO (by omega) (by omega)) kvX9_isDecided kiX9_isDecided kl_L_189 rfl rfl (As := [.int (zI (c : Int))]) rfl rfl (rm_law0 rfl (by omega) (by omega)) dL_law_416 419 rfl ?_
              show V p l e room_1 s m args below meth cd Q 32 H lo kq nq 419 [(0, .ref (E 107 0)), (1, .ref x), (2, .int (zI t)), (3, .int (zI (co 0 0))), (4, .int (zI (co 0 1))), (5, .int (zI a5)), (6, .int (zI a6)), (7, .int (zI a7)), (8, .int (zI a8)), (9, .int (zI a9)), (10, .int (zI a10)), (11, .ref y), (12, .ref (y + 1)), (13, .ref (y + 2)), (14, .int (zI (c : Int))), (15, .int (zI (co 1 (c : Int)))), (16, .int (zI (co 2 (c : Int)))), (17, .int (zI (co 6 (c : Int)))), (18, .int (zI (vdC co (c : Int)))), (19, .int (zI (wsC co (c : Int) 1))), (20, .int (zI (wsC co (c : Int) (-1)))), (21, .int (zI (mgC co (c : Int)))), (22, .int (zI 0)), (23, .int (zI (-30000))), (24, .int (zI 0)), (25, .ref b)] [.int (zI (bz (co 3 (c : Int) = 1)))]
              refine v_bif_ne X dL_law_419 422 480 rfl (by decide) (fun c_23 => ?_) (fun c_23 => ?_)
              · skip
                exfalso; omega
              · skip
                refine v_aload_n X dL_law_422 423 rfl 1 rfl ?_
                refine v_iload X dL_law_423 425 rfl 14 rfl ?_
                refine v_iload X dL_law_425 427 rfl 17 rfl ?_
                refine v_mwS X hM (w_X9_witnessAt_1_t l hl E x co 0 (-1) (-1) 0 (c : Int) (co 6 (c : Int)) hO (by omega) (by omega) (by omega) (by omega)) kwL_witnessAt ksL_witnessAt kl_L_195 (As := [.ref x, .int (zI (c : Int)), .int (zI (co 6 (c : Int)))]) rfl rfl (rm_lawW rfl (by omega) (by omega)) dL_law_427 430 rfl (k' := kq + 1) (n' := nq + 6) rfl rfl (fun q hq => hq.elim) ⟨h_cm, h_co⟩ (fun rv H24 lo24 hM hF hpo => ?_)
                subst hpo
                replace h_cm := h_cm.kept hF 1 rfl (fun q _ _ h => h.elim)
                replace h_co := h_co.kept hF 28 rfl (fun q _ _ h => h.elim)
                replace h_hw := h_hw.kept hF (fun q _ _ h => h.elim)
                replace h_w := h_w.kept hF (fun q _ h => h.elim)
                replace h_sn := h_sn.kept hF 1 rfl (fun q _ _ h => h.elim)
                replace h_mt := h_mt.kept hF 1 rfl (fun q _ _ h => h.elim)
                replace h_sq := h_sq.kept hF 1 rfl (fun q _ _ h => h.elim)
                replace h_ls := h_ls.kept hF (fun q _ _ h => h.elim)
                show V p l e room_1 s m args below meth cd Q 32 H24 lo24 (kq + 1) (nq + 6) 430 [(0, .ref (E 107 0)), (1, .ref x), (2, .int (zI t)), (3, .int (zI (co 0 0))), (4, .int (zI (co 0 1))), (5, .int (zI a5)), (6, .int (zI a6)), (7, .int (zI a7)), (8, .int (zI a8)), (9, .int (zI a9)), (10, .int (zI a10)), (11, .ref y), (12, .ref (y + 1)), (13, .ref (y + 2)), (14, .int (zI (c : Int))), (15, .int (zI (co 1 (c : Int)))), (16, .int (zI (co 2 (c : Int)))), (17, .int (zI (co 6 (c : Int)))), (18, .int (zI (vdC co (c : Int)))), (19, .int (zI (wsC co (c : Int) 1))), (20, .int (zI (wsC co (c : Int) (-1)))), (21, .int (zI (mgC co (c : Int)))), (22, .int (zI 0)), (23, .int (zI (-30000))), (24, .int (zI 0)), (25, .ref b)] [.int (zI (-30000))]
                refine v_sipush X dL_law_430 433 rfl rfl ?_
                refine v_icmp_ne X (by omega) (by omega) dL_law_433 436 480 rfl (by decide) (fun c_25 => ?_) (fun c_25 => ?_)
                · skip
                  exfalso; omega
                · skip
                  refine v_aload_n X dL_law_436 437 rfl 1 rfl ?_
                  refine v_iload X dL_law_437 439 rfl 14 rfl ?_
                  refine v_rdV X hM.C (PW.app h_cm.1 h_co.1) (c_X9_prosecutionWeight l E x co 0 (-1) (-1) 0 (c : Int) hO (by omega) (by omega)) kvX9_prosecutionWeight kiX9_prosecutionWeight kl_L_197 rfl rfl (As := [.int (zI (c : Int))]) rfl rfl (rm_law0 rfl (by omega) (by omega)) dL_law_439 442 rfl ?_
                  show V p l e room_1 s m args below meth cd Q 32 H24 lo24 (kq + 1) (nq + 6) 442 [(0, .ref (E 107 0)), (1, .ref x), (2, .int (zI t)), (3, .int (zI (co 0 0))), (4, .int (zI (co 0 1))), (5, .int (zI a5)), (6, .int (zI a6)), (7, .int (zI a7)), (8, .int (zI a8)), (9, .int (zI a9)), (10, .int (zI a10)), (11, .ref y), (12, .ref (y + 1)), (13, .ref (y + 2)), (14, .int (zI (c : Int))), (15, .int (zI (co 1 (c : Int)))), (16, .int (zI (co 2 (c : Int)))), (17, .int (zI (co 6 (c : Int)))), (18, .int (zI (vdC co (c : Int)))), (19, .int (zI (wsC co (c : Int) 1))), (20, .int (zI (wsC co (c : Int) (-1)))), (21, .int (zI (mgC co (c : Int)))), (22, .int (zI 0)), (23, .int (zI (-30000))), (24, .int (zI 0)), (25, .ref b)] [.int (zI (sumZ (fun j => if sdC co (c : Int) j = 1 then wtC co (c : Int) j else 0) (co 6 (c : Int)).toNat))]
                  refine V_S (st' := [.int (zI (wsC co (c : Int) 1))]) (by rfl) ?_
                  refine v_iload X dL_law_442 444 rfl 19 rfl ?_
                  refine v_icmp_ne X (by omega) (by omega) dL_law_444 447 480 rfl (by decide) (fun c_26 => ?_) (fun c_26 => ?_)
                  · skip
                    exfalso; exact c_26 rfl
                  · skip
                    refine v_aload_n X dL_law_447 448 rfl 1 rfl ?_
                    refine v_iload X dL_law_448 450 rfl 14 rfl ?_
                    refine v_rdV X hM.C (PW.app h_cm.1 h_co.1) (c_X9_defenceWeight l E x co 0 (-1) (-1) 0 (c : Int) hO (by omega) (by omega)) kvX9_defenceWeight kiX9_defenceWeight kl_L_200 rfl rfl (As := [.int (zI (c : Int))]) rfl rfl (rm_law0 rfl (by omega) (by omega)) dL_law_450 453 rfl ?_
                    show V p l e room_1 s m args below meth cd Q 32 H24 lo24 (kq + 1) (nq + 6) 453 [(0, .ref (E 107 0)), (1, .ref x), (2, .int (zI t)), (3, .int (zI (co 0 0))), (4, .int (zI (co 0 1))), (5, .int (zI a5)), (6, .int (zI a6)), (7, .int (zI a7)), (8, .int (zI a8)), (9, .int (zI a9)), (10, .int (zI a10)), (11, .ref y), (12, .ref (y + 1)), (13, .ref (y + 2)), (14, .int (zI (c : Int))), (15, .int (zI (co 1 (c : Int)))), (16, .int (zI (co 2 (c : Int)))), (17, .int (zI (co 6 (c : Int)))), (18, .int (zI (vdC co (c : Int)))), (19, .int (zI (wsC co (c : Int) 1))), (20, .int (zI (wsC co (c : Int) (-1)))), (21, .int (zI (mgC co (c : Int)))), (22, .int (zI 0)), (23, .int (zI (-30000))), (24, .int (zI 0)), (25, .ref b)] [.int (zI (sumZ (fun j => if sdC co (c : Int) j = (-1) then wtC co (c : Int) j else 0) (co 6 (c : Int)).toNat))]
                    refine V_S (st' := [.int (zI (wsC co (c : Int) (-1)))]) (by rfl) ?_
                    refine v_iload X dL_law_453 455 rfl 20 rfl ?_
                    refine v_icmp_ne X (by omega) (by omega) dL_law_455 458 480 rfl (by decide) (fun c_27 => ?_) (fun c_27 => ?_)
                    · skip
                      exfalso; exact c_27 rfl
                    · skip
                      refine v_aload_n X dL_law_458 459 rfl 1 rfl ?_
                      refine v_iload X dL_law_459 461 rfl 14 rfl ?_
                      refine v_rdV X hM.C (PW.app h_cm.1 h_co.1) (c_X9_margin l E x co 0 (-1) (-1) 0 (c : Int) hO (by omega) (by omega)) kvX9_margin kiX9_margin kl_L_203 rfl rfl (As := [.int (zI (c : Int))]) rfl rfl (rm_law0 rfl (by omega) (by omega)) dL_law_461 464 rfl ?_
                      show V p l e room_1 s m args below meth cd Q 32 H24 lo24 (kq + 1) (nq + 6) 464 [(0, .ref (E 107 0)), (1, .ref x), (2, .int (zI t)), (3, .int (zI (co 0 0))), (4, .int (zI (co 0 1))), (5, .int (zI a5)), (6, .int (zI a6)), (7, .int (zI a7)), (8, .int (zI a8)), (9, .int (zI a9)), (10, .int (zI a10)), (11, .ref y), (12, .ref (y + 1)), (13, .ref (y + 2)), (14, .int (zI (c : Int))), (15, .int (zI (co 1 (c : Int)))), (16, .int (zI (co 2 (c : Int)))), (17, .int (zI (co 6 (c : Int)))), (18, .int (zI (vdC co (c : Int)))), (19, .int (zI (wsC co (c : Int) 1))), (20, .int (zI (wsC co (c : Int) (-1)))), (21, .int (zI (mgC co (c : Int)))), (22, .int (zI 0)), (23, .int (zI (-30000))), (24, .int (zI 0)), (25, .ref b)] [.int (zI (mgC co (c : Int)))]
                      refine v_iload X dL_law_464 466 rfl 21 rfl ?_
                      refine v_icmp_ne X (by omega) (by omega) dL_law_466 469 480 rfl (by decide) (fun c_28 => ?_) (fun c_28 => ?_)
                      · skip
                        exfalso; exact c_28 rfl
                      · skip
                        refine v_aload_n X dL_law_469 470 rfl 1 rfl ?_
                        refine v_iload X dL_law_470 472 rfl 14 rfl ?_
                        refine v_rdV X hM.C (PW.app h_cm.1 h_co.1) (c_X9_marginByCredibility l E x co 0 (-1) (-1) 0 (c : Int) hO (by omega) (by omega)) kvX9_marginByCredibility kiX9_marginByCredibility kl_L_206 rfl rfl (As := [.int (zI (c : Int))]) rfl rfl (rm_law0 rfl (by omega) (by omega)) dL_law_472 475 rfl ?_
                        show V p l e room_1 s m args below meth cd Q 32 H24 lo24 (kq + 1) (nq + 6) 475 [(0, .ref (E 107 0)), (1, .ref x), (2, .int (zI t)), (3, .int (zI (co 0 0))), (4, .int (zI (co 0 1))), (5, .int (zI a5)), (6, .int (zI a6)), (7, .int (zI a7)), (8, .int (zI a8)), (9, .int (zI a9)), (10, .int (zI a10)), (11, .ref y), (12, .ref (y + 1)), (13, .ref (y + 2)), (14, .int (zI (c : Int))), (15, .int (zI (co 1 (c : Int)))), (16, .int (zI (co 2 (c : Int)))), (17, .int (zI (co 6 (c : Int)))), (18, .int (zI (vdC co (c : Int)))), (19, .int (zI (wsC co (c : Int) 1))), (20, .int (zI (wsC co (c : Int) (-1)))), (21, .int (zI (mgC co (c : Int)))), (22, .int (zI 0)), (23, .int (zI (-30000))), (24, .int (zI 0)), (25, .ref b)] [.int (zI (mlC co (c : Int)))]
                        refine v_iload X dL_law_475 477 rfl 21 rfl ?_
                        refine v_icmp_eq X (by omega) (by omega) dL_law_477 480 482 rfl (by decide) (fun c_29 => ?_) (fun c_29 => ?_)
                        · skip
                          refine v_widen (k' := kq + 1) (n' := nq + 6) (by omega) (by omega) ?_
                          refine v_locals [0, 1, 2, 3, 4, 5, 6, 7, 8, 9, 10, 11, 12, 13, 14, 15, 16, 17, 18, 19, 20, 21, 22, 23, 24, 25] (L' := [(0, .ref (E 107 0)), (1, .ref x), (2, .int (zI t)), (3, .int (zI (co 0 0))), (4, .int (zI (co 0 1))), (5, .int (zI a5)), (6, .int (zI a6)), (7, .int (zI a7)), (8, .int (zI a8)), (9, .int (zI a9)), (10, .int (zI a10)), (11, .ref y), (12, .ref (y + 1)), (13, .ref (y + 2)), (14, .int (zI (c : Int))), (15, .int (zI (co 1 (c : Int)))), (16, .int (zI (co 2 (c : Int)))), (17, .int (zI (co 6 (c : Int)))), (18, .int (zI (vdC co (c : Int)))), (19, .int (zI (wsC co (c : Int) 1))), (20, .int (zI (wsC co (c : Int) (-1)))), (21, .int (zI (mgC co (c : Int)))), (22, .int (zI 0)), (23, .int (zI (-30000))), (24, .int (zI 0)), (25, .ref b)]) rfl ?_
                          exact kk _ _ hM h_cm h_co h_hw h_w h_sn h_mt h_sq h_ls
                        · skip
                          exfalso; exact c_29 hma.symm
end LAWSEG
