theorem updN_2 {M : Int → Nat} {i : Int} {a b : Nat} : updN (updN M i a) i b = updN M i b := by
  funext j
  unfold updN
  split <;> rfl
theorem updN_self {M : Int → Nat} {i : Int} : updN M i (M i) = M := by
  funext j
  unfold updN
  split
  · rename_i h
    rw [h]
  · rfl
theorem gp_nz {co : Nat → Int → Int} {w : Nat} : gpS co w 8 ≠ 0 := fun q => by
  have h := gp_self (co := co) (w := w) 8
  rw [q, Nat.zero_testBit] at h
  exact absurd h (by decide)
theorem tz_g {a w : Nat} (ha : a < 256) (hw : w < 8) (hb : a.testBit w = true) : tzZ a = (w : Int) ↔ a &&& (2 ^ w - 1) = 0 := tz_low ⟨a, ha⟩ ⟨w, hw⟩ hb
theorem tz_b (a : Nat) : -1 ≤ tzZ a ∧ tzZ a ≤ 8 := by
  have h := firstZ_b (fun k => a.testBit (Int.toNat k) = true) 8
  unfold tzZ
  omega
theorem agL_1 {co : Nat → Int → Int} {w y j : Int} (h : 0 < co 9 (j * 8 + w)) (g : 0 < co 9 (j * 8 + y)) (e : bz (0 < co 8 (j * 8 + w)) = bz (0 < co 8 (j * 8 + y))) : agL co w y j = 1 := by
  unfold agL
  rw [if_pos ⟨h, g⟩, if_pos e]
theorem agL_2 {co : Nat → Int → Int} {w y j : Int} (h : 0 < co 9 (j * 8 + w)) (g : 0 < co 9 (j * 8 + y)) (e : ¬ bz (0 < co 8 (j * 8 + w)) = bz (0 < co 8 (j * 8 + y))) : agL co w y j = -1 := by
  unfold agL
  rw [if_pos ⟨h, g⟩, if_neg e]
theorem agL_3 {co : Nat → Int → Int} {w y j : Int} (h : ¬ 0 < co 9 (j * 8 + w)) : agL co w y j = 0 := if_neg (fun q => h q.1)
theorem agL_4 {co : Nat → Int → Int} {w y j : Int} (h : ¬ 0 < co 9 (j * 8 + y)) : agL co w y j = 0 := if_neg (fun q => h q.2)
section LAWSEG
variable {p : Program} {l : Launch} {e : Env} {s : State} {m : MethodId} {args : Array Value} {below : List Frame} {meth : Method} {cd : Code} {Q : State → Prop} {E : Nat → Nat → Nat} {H : Heap} {lo : List Loc} {kq nq : Nat}
set_option maxHeartbeats 4000000 in
set_option maxRecDepth 20000 in
theorem sg_clos (hl : l.stackTraces = false) (X : CF p m cd cL_law 32 s args RL) {x : Nat} {y : Nat} {v : Nat} {co : Nat → Int → Int} {T : List Int} {t : Int} {sF : Int → Int} {mF : Int → Nat} {qF : Int → Int} {a5 : Int} {a6 : Int} {a7 : Int} {a8 : Int} {a9 : Int} {a10 : Int} (hx : s.heap.size ≤ x) (hD : InvD co) (hO : OkC co) (hy : x + 334 ≤ y) (hvy : v < y ∨ y + 3 ≤ v) (hn1 : 4 ≤ co 0 1 ∧ co 0 1 ≤ 7) (hmf : ∀ j : Int, mF j < 256) (hM : MS E [] s H lo) (h_cm : PR E x [(x, .inr (11, [.ref (x + 1), .ref (x + 29), .ref (x + 57), .ref (x + 85), .ref (x + 311), .ref (x + 314), .ref (x + 319), .ref (x + 332), .int (zI 0), .int (zI (-1)), .int (zI (-1)), .int (zI 0)]))] H) (h_co : PR E (x + 1) (courtW E (x + 1) co) H) (h_hw : HW E x H) (h_w : RW E x v T H) (h_sn : PR E y [(y, .inl (E 102 0, 6, .inl (zA sF)))] H) (h_mt : PR E (y + 1) [(y + 1, .inl (E 102 0, 8, .inl (zA (nZ mF))))] H) (h_sq : PR E (y + 2) [(y + 2, .inl (E 102 0, 8, .inl (zA qF)))] H) (hk : kq + 0 ≤ 683119) (hn : nq + 0 ≤ 7044570) (kk : ∀ (H1 : Heap) (lo1 : List Loc), MS E [] s H1 lo1 → PR E x [(x, .inr (11, [.ref (x + 1), .ref (x + 29), .ref (x + 57), .ref (x + 85), .ref (x + 311), .ref (x + 314), .ref (x + 319), .ref (x + 332), .int (zI 0), .int (zI (-1)), .int (zI (-1)), .int (zI 0)]))] H1 → PR E (x + 1) (courtW E (x + 1) co) H1 → HW E x H1 → RW E x v T H1 → PR E y [(y, .inl (E 102 0, 6, .inl (zA sF)))] H1 → PR E (y + 1) [(y + 1, .inl (E 102 0, 8, .inl (zA (nZ (clF co mF 8)))))] H1 → PR E (y + 2) [(y + 2, .inl (E 102 0, 8, .inl (zA qF)))] H1 → V p l e room_1 s m args below meth cd Q 32 H1 lo1 (kq + 0) (nq + 0) 1168 [(0, .ref (E 107 0)), (1, .ref x), (2, .int (zI t)), (3, .int (zI (co 0 0))), (4, .int (zI (co 0 1))), (5, .int (zI a5)), (6, .int (zI a6)), (7, .int (zI a7)), (8, .int (zI a8)), (9, .int (zI a9)), (10, .int (zI a10)), (11, .ref y), (12, .ref (y + 1)), (13, .ref (y + 2))] []) : V p l e room_1 s m args below meth cd Q 32 H lo kq nq 1089 [(0, .ref (E 107 0)), (1, .ref x), (2, .int (zI t)), (3, .int (zI (co 0 0))), (4, .int (zI (co 0 1))), (5, .int (zI a5)), (6, .int (zI a6)), (7, .int (zI a7)), (8, .int (zI a8)), (9, .int (zI a9)), (10, .int (zI a10)), (11, .ref y), (12, .ref (y + 1)), (13, .ref (y + 2))] [] := by
  have hvl := h_w.lt
  have hb0 := hO.b0
  have hbw := hO.bw
  refine v_iconst X dL_law_1089 1090 rfl ?_
  refine v_istore X dL_law_1090 1092 rfl (by decide) (L' := [(14, .int (zI 0)), (0, .ref (E 107 0)), (1, .ref x), (2, .int (zI t)), (3, .int (zI (co 0 0))), (4, .int (zI (co 0 1))), (5, .int (zI a5)), (6, .int (zI a6)), (7, .int (zI a7)), (8, .int (zI a8)), (9, .int (zI a9)), (10, .int (zI a10)), (11, .ref y), (12, .ref (y + 1)), (13, .ref (y + 2))]) rfl ?_
  refine V_L (L' := [(14, .int (zI 0)), (0, .ref (E 107 0)), (1, .ref x), (2, .int (zI t)), (3, .int (zI (co 0 0))), (4, .int (zI (co 0 1))), (5, .int (zI a5)), (6, .int (zI a6)), (7, .int (zI a7)), (8, .int (zI a8)), (9, .int (zI a9)), (10, .int (zI a10)), (11, .ref y), (12, .ref (y + 1)), (13, .ref (y + 2))]) (LC rfl (LC rfl (LC rfl (LC rfl (LC rfl (LC rfl (LC rfl (LC rfl (LC rfl (LC rfl (LC rfl (LC rfl (LC rfl (LC rfl (LC rfl rfl))))))))))))))) ?_
  refine up_loop 8 (P := fun (r : Nat) => ∀ (H : Heap) (lo : List Loc), MS E [] s H lo → PR E x [(x, .inr (11, [.ref (x + 1), .ref (x + 29), .ref (x + 57), .ref (x + 85), .ref (x + 311), .ref (x + 314), .ref (x + 319), .ref (x + 332), .int (zI 0), .int (zI (-1)), .int (zI (-1)), .int (zI 0)]))] H → PR E (x + 1) (courtW E (x + 1) co) H → HW E x H → RW E x v T H → PR E y [(y, .inl (E 102 0, 6, .inl (zA sF)))] H → PR E (y + 1) [(y + 1, .inl (E 102 0, 8, .inl (zA (nZ (clF co mF r)))))] H → PR E (y + 2) [(y + 2, .inl (E 102 0, 8, .inl (zA qF)))] H → V p l e room_1 s m args below meth cd Q 32 H lo kq nq 1092 [(14, .int (zI (r : Int))), (0, .ref (E 107 0)), (1, .ref x), (2, .int (zI t)), (3, .int (zI (co 0 0))), (4, .int (zI (co 0 1))), (5, .int (zI a5)), (6, .int (zI a6)), (7, .int (zI a7)), (8, .int (zI a8)), (9, .int (zI a9)), (10, .int (zI a10)), (11, .ref y), (12, .ref (y + 1)), (13, .ref (y + 2))] []) (fun r hi_r ih_r H1 lo1 hM h_cm h_co h_hw h_w h_sn h_mt h_sq => ?_) _ _ hM h_cm h_co h_hw h_w h_sn (PR.to h_mt (by rfl)) h_sq
  refine v_iload X dL_law_1092 1094 rfl 0 rfl ?_
  refine v_bipush X dL_law_1094 1096 rfl rfl ?_
  refine v_icmp_ge X (by omega) (by omega) dL_law_1096 1099 1168 rfl (by decide) (fun c_2 => ?_) (fun c_2 => ?_)
  · skip
    refine v_widen (k' := kq + 0) (n' := nq + 0) (by omega) (by omega) ?_
    refine v_locals [1, 2, 3, 4, 5, 6, 7, 8, 9, 10, 11, 12, 13, 14] (L' := [(0, .ref (E 107 0)), (1, .ref x), (2, .int (zI t)), (3, .int (zI (co 0 0))), (4, .int (zI (co 0 1))), (5, .int (zI a5)), (6, .int (zI a6)), (7, .int (zI a7)), (8, .int (zI a8)), (9, .int (zI a9)), (10, .int (zI a10)), (11, .ref y), (12, .ref (y + 1)), (13, .ref (y + 2))]) rfl ?_
    exact kk _ _ hM h_cm h_co h_hw h_w h_sn (PR.to h_mt (by rw [show r = 8 by omega])) h_sq
  · skip
    refine v_iconst X dL_law_1099 1100 rfl ?_
    refine v_istore X dL_law_1100 1102 rfl (by decide) (L' := [(15, .int (zI 0)), (14, .int (zI (r : Int))), (0, .ref (E 107 0)), (1, .ref x), (2, .int (zI t)), (3, .int (zI (co 0 0))), (4, .int (zI (co 0 1))), (5, .int (zI a5)), (6, .int (zI a6)), (7, .int (zI a7)), (8, .int (zI a8)), (9, .int (zI a9)), (10, .int (zI a10)), (11, .ref y), (12, .ref (y + 1)), (13, .ref (y + 2))]) rfl ?_
    refine V_L (L' := [(15, .int (zI 0)), (14, .int (zI (r : Int))), (0, .ref (E 107 0)), (1, .ref x), (2, .int (zI t)), (3, .int (zI (co 0 0))), (4, .int (zI (co 0 1))), (5, .int (zI a5)), (6, .int (zI a6)), (7, .int (zI a7)), (8, .int (zI a8)), (9, .int (zI a9)), (10, .int (zI a10)), (11, .ref y), (12, .ref (y + 1)), (13, .ref (y + 2))]) (LC rfl (LC rfl (LC rfl (LC rfl (LC rfl (LC rfl (LC rfl (LC rfl (LC rfl (LC rfl (LC rfl (LC rfl (LC rfl (LC rfl (LC rfl (LC rfl rfl)))))))))))))))) ?_
    refine up_loop ((co 0 1).toNat) (P := fun (u : Nat) => ∀ (H : Heap) (lo : List Loc), MS E [] s H lo → PR E x [(x, .inr (11, [.ref (x + 1), .ref (x + 29), .ref (x + 57), .ref (x + 85), .ref (x + 311), .ref (x + 314), .ref (x + 319), .ref (x + 332), .int (zI 0), .int (zI (-1)), .int (zI (-1)), .int (zI 0)]))] H → PR E (x + 1) (courtW E (x + 1) co) H → HW E x H → RW E x v T H → PR E y [(y, .inl (E 102 0, 6, .inl (zA sF)))] H → PR E (y + 1) [(y + 1, .inl (E 102 0, 8, .inl (zA (nZ (roF co (clF co mF r) u)))))] H → PR E (y + 2) [(y + 2, .inl (E 102 0, 8, .inl (zA qF)))] H → V p l e room_1 s m args below meth cd Q 32 H lo kq nq 1102 [(15, .int (zI (u : Int))), (14, .int (zI (r : Int))), (0, .ref (E 107 0)), (1, .ref x), (2, .int (zI t)), (3, .int (zI (co 0 0))), (4, .int (zI (co 0 1))), (5, .int (zI a5)), (6, .int (zI a6)), (7, .int (zI a7)), (8, .int (zI a8)), (9, .int (zI a9)), (10, .int (zI a10)), (11, .ref y), (12, .ref (y + 1)), (13, .ref (y + 2))] []) (fun u hi_u ih_u H3 lo3 hM h_cm h_co h_hw h_w h_sn h_mt h_sq => ?_) _ _ hM h_cm h_co h_hw h_w h_sn (PR.to h_mt (by rfl)) h_sq
    refine v_iload X dL_law_1102 1104 rfl 0 rfl ?_
    refine v_iload X dL_law_1104 1106 rfl 6 rfl ?_
    have hb_5 := hO.bw
    refine v_icmp_ge X (by omega) (by omega) dL_law_1106 1109 1162 rfl (by decide) (fun c_4 => ?_) (fun c_4 => ?_)
    · skip
      refine v_iinc X dL_law_1162 1165 rfl 1 rfl (by decide) (L' := [(14, .int (zI ((r : Int) + 1))), (15, .int (zI (u : Int))), (0, .ref (E 107 0)), (1, .ref x), (2, .int (zI t)), (3, .int (zI (co 0 0))), (4, .int (zI (co 0 1))), (5, .int (zI a5)), (6, .int (zI a6)), (7, .int (zI a7)), (8, .int (zI a8)), (9, .int (zI a9)), (10, .int (zI a10)), (11, .ref y), (12, .ref (y + 1)), (13, .ref (y + 2))]) rfl ?_
      refine v_goto X dL_law_1165 1092 (by decide) ?_
      refine v_locals [0, 2, 3, 4, 5, 6, 7, 8, 9, 10, 11, 12, 13, 14, 15] (L' := [(14, .int (zI ((r : Int) + 1))), (0, .ref (E 107 0)), (1, .ref x), (2, .int (zI t)), (3, .int (zI (co 0 0))), (4, .int (zI (co 0 1))), (5, .int (zI a5)), (6, .int (zI a6)), (7, .int (zI a7)), (8, .int (zI a8)), (9, .int (zI a9)), (10, .int (zI a10)), (11, .ref y), (12, .ref (y + 1)), (13, .ref (y + 2))]) rfl ?_
      have hb_6 := hO.b0
      exact V_L (L' := [(14, .int (zI ((r + 1 : Nat) : Int))), (0, .ref (E 107 0)), (1, .ref x), (2, .int (zI t)), (3, .int (zI (co 0 0))), (4, .int (zI (co 0 1))), (5, .int (zI a5)), (6, .int (zI a6)), (7, .int (zI a7)), (8, .int (zI a8)), (9, .int (zI a9)), (10, .int (zI a10)), (11, .ref y), (12, .ref (y + 1)), (13, .ref (y + 2))]) (LC (vz (by omega)) (LC rfl (LC rfl (LC rfl (LC rfl (LC rfl (LC rfl (LC rfl (LC rfl (LC rfl (LC rfl (LC rfl (LC rfl (LC rfl (LC rfl rfl))))))))))))))) (ih_r (by omega) _ _ hM h_cm h_co h_hw h_w h_sn (PR.to h_mt (by rw [show u = (co 0 1).toNat by omega]; rfl)) h_sq)
    · skip
      refine v_iconst X dL_law_1109 1110 rfl ?_
      refine v_istore X dL_law_1110 1112 rfl (by decide) (L' := [(16, .int (zI 0)), (15, .int (zI (u : Int))), (14, .int (zI (r : Int))), (0, .ref (E 107 0)), (1, .ref x), (2, .int (zI t)), (3, .int (zI (co 0 0))), (4, .int (zI (co 0 1))), (5, .int (zI a5)), (6, .int (zI a6)), (7, .int (zI a7)), (8, .int (zI a8)), (9, .int (zI a9)), (10, .int (zI a10)), (11, .ref y), (12, .ref (y + 1)), (13, .ref (y + 2))]) rfl ?_
      refine V_L (L' := [(16, .int (zI 0)), (15, .int (zI (u : Int))), (14, .int (zI (r : Int))), (0, .ref (E 107 0)), (1, .ref x), (2, .int (zI t)), (3, .int (zI (co 0 0))), (4, .int (zI (co 0 1))), (5, .int (zI a5)), (6, .int (zI a6)), (7, .int (zI a7)), (8, .int (zI a8)), (9, .int (zI a9)), (10, .int (zI a10)), (11, .ref y), (12, .ref (y + 1)), (13, .ref (y + 2))]) (LC rfl (LC rfl (LC rfl (LC rfl (LC rfl (LC rfl (LC rfl (LC rfl (LC rfl (LC rfl (LC rfl (LC rfl (LC rfl (LC rfl (LC rfl (LC rfl (LC rfl rfl))))))))))))))))) ?_
      refine up_loop ((co 0 1).toNat) (P := fun (i : Nat) => ∀ (H : Heap) (lo : List Loc), MS E [] s H lo → PR E x [(x, .inr (11, [.ref (x + 1), .ref (x + 29), .ref (x + 57), .ref (x + 85), .ref (x + 311), .ref (x + 314), .ref (x + 319), .ref (x + 332), .int (zI 0), .int (zI (-1)), .int (zI (-1)), .int (zI 0)]))] H → PR E (x + 1) (courtW E (x + 1) co) H → HW E x H → RW E x v T H → PR E y [(y, .inl (E 102 0, 6, .inl (zA sF)))] H → PR E (y + 1) [(y + 1, .inl (E 102 0, 8, .inl (zA (nZ (updN (roF co (clF co mF r) u) (u : Int) (ciF (roF co (clF co mF r) u) (u : Int) i))))))] H → PR E (y + 2) [(y + 2, .inl (E 102 0, 8, .inl (zA qF)))] H → V p l e room_1 s m args below meth cd Q 32 H lo kq nq 1112 [(16, .int (zI (i : Int))), (15, .int (zI (u : Int))), (14, .int (zI (r : Int))), (0, .ref (E 107 0)), (1, .ref x), (2, .int (zI t)), (3, .int (zI (co 0 0))), (4, .int (zI (co 0 1))), (5, .int (zI a5)), (6, .int (zI a6)), (7, .int (zI a7)), (8, .int (zI a8)), (9, .int (zI a9)), (10, .int (zI a10)), (11, .ref y), (12, .ref (y + 1)), (13, .ref (y + 2))] []) (fun i hi_i ih_i H7 lo7 hM h_cm h_co h_hw h_w h_sn h_mt h_sq => ?_) _ _ hM h_cm h_co h_hw h_w h_sn (PR.to h_mt (by rw [show ciF (roF co (clF co mF r) u) (u : Int) 0 = (roF co (clF co mF r) u) (u : Int) from rfl, updN_self])) h_sq
      refine v_iload X dL_law_1112 1114 rfl 0 rfl ?_
      refine v_iload X dL_law_1114 1116 rfl 7 rfl ?_
      refine v_icmp_ge X (by omega) (by omega) dL_law_1116 1119 1156 rfl (by decide) (fun c_8 => ?_) (fun c_8 => ?_)
      · skip
        refine v_iinc X dL_law_1156 1159 rfl 1 rfl (by decide) (L' := [(15, .int (zI ((u : Int) + 1))), (16, .int (zI (i : Int))), (14, .int (zI (r : Int))), (0, .ref (E 107 0)), (1, .ref x), (2, .int (zI t)), (3, .int (zI (co 0 0))), (4, .int (zI (co 0 1))), (5, .int (zI a5)), (6, .int (zI a6)), (7, .int (zI a7)), (8, .int (zI a8)), (9, .int (zI a9)), (10, .int (zI a10)), (11, .ref y), (12, .ref (y + 1)), (13, .ref (y + 2))]) rfl ?_
        refine v_goto X dL_law_1159 1102 (by decide) ?_
        refine v_locals [0, 2, 3, 4, 5, 6, 7, 8, 9, 10, 11, 12, 13, 14, 15, 16] (L' := [(15, .int (zI ((u : Int) + 1))), (14, .int (zI (r : Int))), (0, .ref (E 107 0)), (1, .ref x), (2, .int (zI t)), (3, .int (zI (co 0 0))), (4, .int (zI (co 0 1))), (5, .int (zI a5)), (6, .int (zI a6)), (7, .int (zI a7)), (8, .int (zI a8)), (9, .int (zI a9)), (10, .int (zI a10)), (11, .ref y), (12, .ref (y + 1)), (13, .ref (y + 2))]) rfl ?_
        have hb_9 := hO.b0
        exact V_L (L' := [(15, .int (zI ((u + 1 : Nat) : Int))), (14, .int (zI (r : Int))), (0, .ref (E 107 0)), (1, .ref x), (2, .int (zI t)), (3, .int (zI (co 0 0))), (4, .int (zI (co 0 1))), (5, .int (zI a5)), (6, .int (zI a6)), (7, .int (zI a7)), (8, .int (zI a8)), (9, .int (zI a9)), (10, .int (zI a10)), (11, .ref y), (12, .ref (y + 1)), (13, .ref (y + 2))]) (LC (vz (by omega)) (LC rfl (LC rfl (LC rfl (LC rfl (LC rfl (LC rfl (LC rfl (LC rfl (LC rfl (LC rfl (LC rfl (LC rfl (LC rfl (LC rfl (LC rfl rfl)))))))))))))))) (ih_u (by omega) _ _ hM h_cm h_co h_hw h_w h_sn (PR.to h_mt (by rw [show i = (co 0 1).toNat by omega]; rfl)) h_sq)
      · skip
        refine v_aload X dL_law_1119 1121 rfl 15 rfl ?_
        refine v_iload X dL_law_1121 1123 rfl 1 rfl ?_
        refine v_dup2 X dL_law_1123 1124 rfl rfl rfl ?_
        refine v_iald X hM.C h_mt.1 0 rfl (by omega) (by omega) (by omega) dL_law_1124 1125 rfl ?_
        show V p l e room_1 s m args below meth cd Q 32 H7 lo7 kq nq 1125 [(16, .int (zI (i : Int))), (15, .int (zI (u : Int))), (14, .int (zI (r : Int))), (0, .ref (E 107 0)), (1, .ref x), (2, .int (zI t)), (3, .int (zI (co 0 0))), (4, .int (zI (co 0 1))), (5, .int (zI a5)), (6, .int (zI a6)), (7, .int (zI a7)), (8, .int (zI a8)), (9, .int (zI a9)), (10, .int (zI a10)), (11, .ref y), (12, .ref (y + 1)), (13, .ref (y + 2))] [.int (zI ((updN (roF co (clF co mF r) u) (u : Int) (ciF (roF co (clF co mF r) u) (u : Int) i) (u : Int) : Nat) : Int)), .int (zI (u : Int)), .ref (y + 1)]
        refine V_S (st' := [.int (zI ((ciF (roF co (clF co mF r) u) (u : Int) i : Nat) : Int)), .int (zI (u : Int)), .ref (y + 1)]) (by rw [updN_at]) ?_
        suffices hJ1125 : ∀ z9 : Int, z9 = ((if (ciF (roF co (clF co mF r) u) (u : Int) i).testBit i = true then (if (i : Int) = (u : Int) then ciF (roF co (clF co mF r) u) (u : Int) i else (roF co (clF co mF r) u) (i : Int)) else 0 : Nat) : Int) → V p l e room_1 s m args below meth cd Q 32 H7 lo7 kq nq 1148 [(16, .int (zI (i : Int))), (15, .int (zI (u : Int))), (14, .int (zI (r : Int))), (0, .ref (E 107 0)), (1, .ref x), (2, .int (zI t)), (3, .int (zI (co 0 0))), (4, .int (zI (co 0 1))), (5, .int (zI a5)), (6, .int (zI a6)), (7, .int (zI a7)), (8, .int (zI a8)), (9, .int (zI a9)), (10, .int (zI a10)), (11, .ref y), (12, .ref (y + 1)), (13, .ref (y + 2))] [.int (zI z9), .int (zI ((ciF (roF co (clF co mF r) u) (u : Int) i : Nat) : Int)), .int (zI (u : Int)), .ref (y + 1)] by
          refine v_aload X dL_law_1125 1127 rfl 15 rfl ?_
          refine v_iload X dL_law_1127 1129 rfl 1 rfl ?_
          refine v_iald X hM.C h_mt.1 0 rfl (by omega) (by omega) (by omega) dL_law_1129 1130 rfl ?_
          show V p l e room_1 s m args below meth cd Q 32 H7 lo7 kq nq 1130 [(16, .int (zI (i : Int))), (15, .int (zI (u : Int))), (14, .int (zI (r : Int))), (0, .ref (E 107 0)), (1, .ref x), (2, .int (zI t)), (3, .int (zI (co 0 0))), (4, .int (zI (co 0 1))), (5, .int (zI a5)), (6, .int (zI a6)), (7, .int (zI a7)), (8, .int (zI a8)), (9, .int (zI a9)), (10, .int (zI a10)), (11, .ref y), (12, .ref (y + 1)), (13, .ref (y + 2))] [.int (zI ((updN (roF co (clF co mF r) u) (u : Int) (ciF (roF co (clF co mF r) u) (u : Int) i) (u : Int) : Nat) : Int)), .int (zI ((ciF (roF co (clF co mF r) u) (u : Int) i : Nat) : Int)), .int (zI (u : Int)), .ref (y + 1)]
          refine V_S (st' := [.int (zI ((ciF (roF co (clF co mF r) u) (u : Int) i : Nat) : Int)), .int (zI ((ciF (roF co (clF co mF r) u) (u : Int) i : Nat) : Int)), .int (zI (u : Int)), .ref (y + 1)]) (by rw [updN_at]) ?_
          refine v_iload X dL_law_1130 1132 rfl 0 rfl ?_
          refine v_ishr8 (a := ciF (roF co (clF co mF r) u) (u : Int) i) X (ciF_lt (fun j9 => roF_lt (clF_lt hmf _) _ _) _ _) (by omega) (by omega) dL_law_1132 1133 rfl ?_
          refine v_iconst X dL_law_1133 1134 rfl ?_
          refine v_iand8 (a := (ciF (roF co (clF co mF r) u) (u : Int) i) >>> Int.toNat (i : Int)) (b := 1) X (shr_lt (ciF_lt (fun j9 => roF_lt (clF_lt hmf _) _ _) _ _)) (by decide) dL_law_1134 1135 rfl ?_
          have hand_10 : (((ciF (roF co (clF co mF r) u) (u : Int) i) >>> Int.toNat (i : Int)) &&& 1) ≤ 1 := Nat.and_le_right
          refine v_iconst X dL_law_1135 1136 rfl ?_
          refine v_icmp_ne X (by omega) (by omega) dL_law_1136 1139 1147 rfl (by decide) (fun c_11 => ?_) (fun c_11 => ?_)
          · skip
            refine v_iconst X dL_law_1147 1148 rfl ?_
            exact hJ1125 _ (by rw [if_neg (show ¬ (ciF (roF co (clF co mF r) u) (u : Int) i).testBit i = true from fun q9 => c_11 (hr_shift.mpr q9))]; rfl)
          · skip
            refine v_aload X dL_law_1139 1141 rfl 15 rfl ?_
            refine v_iload X dL_law_1141 1143 rfl 0 rfl ?_
            refine v_iald X hM.C h_mt.1 0 rfl (by omega) (by omega) (by omega) dL_law_1143 1144 rfl ?_
            show V p l e room_1 s m args below meth cd Q 32 H7 lo7 kq nq 1144 [(16, .int (zI (i : Int))), (15, .int (zI (u : Int))), (14, .int (zI (r : Int))), (0, .ref (E 107 0)), (1, .ref x), (2, .int (zI t)), (3, .int (zI (co 0 0))), (4, .int (zI (co 0 1))), (5, .int (zI a5)), (6, .int (zI a6)), (7, .int (zI a7)), (8, .int (zI a8)), (9, .int (zI a9)), (10, .int (zI a10)), (11, .ref y), (12, .ref (y + 1)), (13, .ref (y + 2))] [.int (zI ((updN (roF co (clF co mF r) u) (u : Int) (ciF (roF co (clF co mF r) u) (u : Int) i) (i : Int) : Nat) : Int)), .int (zI ((ciF (roF co (clF co mF r) u) (u : Int) i : Nat) : Int)), .int (zI (u : Int)), .ref (y + 1)]
            refine v_goto X dL_law_1144 1148 (by decide) ?_
            exact hJ1125 _ (by rw [if_pos (show (ciF (roF co (clF co mF r) u) (u : Int) i).testBit i = true from hr_shift.mp c_11)]; rfl)
        intro z9 hz9
        subst hz9
        refine v_ior8 (a := ciF (roF co (clF co mF r) u) (u : Int) i) (b := if (ciF (roF co (clF co mF r) u) (u : Int) i).testBit i = true then (if (i : Int) = (u : Int) then ciF (roF co (clF co mF r) u) (u : Int) i else (roF co (clF co mF r) u) (i : Int)) else 0) X (ciF_lt (fun j9 => roF_lt (clF_lt hmf _) _ _) _ _) (by split; split; exact ciF_lt (fun j9 => roF_lt (clF_lt hmf _) _ _) _ _; exact roF_lt (clF_lt hmf _) _ _; decide) dL_law_1148 1149 rfl ?_
        refine v_iast X hM h_mt 0 rfl (by omega) (by omega) (by omega) (Or.inr (by omega)) dL_law_1149 1150 rfl (ws' := [(y + 1, .inl (E 102 0, 8, .inl (zA (updZ (nZ (updN (roF co (clF co mF r) u) (u : Int) (ciF (roF co (clF co mF r) u) (u : Int) i))) (u : Int) (((ciF (roF co (clF co mF r) u) (u : Int) i) ||| (if (ciF (roF co (clF co mF r) u) (u : Int) i).testBit i = true then (if (i : Int) = (u : Int) then ciF (roF co (clF co mF r) u) (u : Int) i else (roF co (clF co mF r) u) (i : Int)) else 0) : Nat) : Int)))))]) rfl (fun H12 lo12 hzz hM hF h_mt => ?_)
        clear hzz
        replace h_cm := h_cm.kept hF 1 rfl (by intro q q1 q2 q3; simp only [Fs, or_false] at q3; omega)
        replace h_co := h_co.kept hF 28 rfl (by intro q q1 q2 q3; simp only [Fs, or_false] at q3; omega)
        replace h_hw := h_hw.kept hF (by intro q q1 q2 q3; simp only [Fs, or_false] at q3; omega)
        replace h_w := h_w.kept hF (by intro q q1 q3; simp only [Fs, or_false] at q3; omega)
        replace h_sn := h_sn.kept hF 1 rfl (by intro q q1 q2 q3; simp only [Fs, or_false] at q3; omega)
        replace h_sq := h_sq.kept hF 1 rfl (by intro q q1 q2 q3; simp only [Fs, or_false] at q3; omega)
        refine v_iinc X dL_law_1150 1153 rfl 0 rfl (by decide) (L' := [(16, .int (zI ((i : Int) + 1))), (15, .int (zI (u : Int))), (14, .int (zI (r : Int))), (0, .ref (E 107 0)), (1, .ref x), (2, .int (zI t)), (3, .int (zI (co 0 0))), (4, .int (zI (co 0 1))), (5, .int (zI a5)), (6, .int (zI a6)), (7, .int (zI a7)), (8, .int (zI a8)), (9, .int (zI a9)), (10, .int (zI a10)), (11, .ref y), (12, .ref (y + 1)), (13, .ref (y + 2))]) rfl ?_
        refine v_goto X dL_law_1153 1112 (by decide) ?_
        have hb_13 := hO.b0
        exact V_L (L' := [(16, .int (zI ((i + 1 : Nat) : Int))), (15, .int (zI (u : Int))), (14, .int (zI (r : Int))), (0, .ref (E 107 0)), (1, .ref x), (2, .int (zI t)), (3, .int (zI (co 0 0))), (4, .int (zI (co 0 1))), (5, .int (zI a5)), (6, .int (zI a6)), (7, .int (zI a7)), (8, .int (zI a8)), (9, .int (zI a9)), (10, .int (zI a10)), (11, .ref y), (12, .ref (y + 1)), (13, .ref (y + 2))]) (LC (vz (by omega)) (LC rfl (LC rfl (LC rfl (LC rfl (LC rfl (LC rfl (LC rfl (LC rfl (LC rfl (LC rfl (LC rfl (LC rfl (LC rfl (LC rfl (LC rfl (LC rfl rfl))))))))))))))))) (ih_i (by omega) _ _ hM h_cm h_co h_hw h_w h_sn (PR.to h_mt (by rw [nZ_upd, updN_2]; rfl)) h_sq)
set_option maxHeartbeats 4000000 in
set_option maxRecDepth 20000 in
theorem sg_wit (hl : l.stackTraces = false) (X : CF p m cd cL_law 32 s args RL) {x : Nat} {y : Nat} {v : Nat} {co : Nat → Int → Int} {T : List Int} {t : Int} {sF : Int → Int} {mF : Int → Nat} {qF : Int → Int} {a5 : Int} {a6 : Int} {a7 : Int} {a9 : Int} (hx : s.heap.size ≤ x) (hD : InvD co) (hO : OkC co) (hU : UqI co) (hy : x + 334 ≤ y) (hvy : v < y ∨ y + 3 ≤ v) (hn0 : co 0 0 ≤ 9) (hn1 : 4 ≤ co 0 1 ∧ co 0 1 ≤ 7) (hmf : ∀ j : Int, mF j < 256) (hmg : ∀ w : Int, 0 ≤ w → w < co 0 1 → mF w = gpS co (Int.toNat w) 8) (hqf : ∀ w : Int, 0 ≤ w → w < 8 → qF w = chC co w) (hM : MS E [] s H lo) (h_cm : PR E x [(x, .inr (11, [.ref (x + 1), .ref (x + 29), .ref (x + 57), .ref (x + 85), .ref (x + 311), .ref (x + 314), .ref (x + 319), .ref (x + 332), .int (zI 0), .int (zI (-1)), .int (zI (-1)), .int (zI 0)]))] H) (h_co : PR E (x + 1) (courtW E (x + 1) co) H) (h_hw : HW E x H) (h_w : RW E x v T H) (h_sn : PR E y [(y, .inl (E 102 0, 6, .inl (zA sF)))] H) (h_mt : PR E (y + 1) [(y + 1, .inl (E 102 0, 8, .inl (zA (nZ mF))))] H) (h_sq : PR E (y + 2) [(y + 2, .inl (E 102 0, 8, .inl (zA qF)))] H) (hk : kq + 110 ≤ 683119) (hn : nq + 6000 ≤ 7044570) (kk : ∀ (H1 : Heap) (lo1 : List Loc) (v1 : Nat) (T1 : List Int), (v1 < y ∨ y + 3 ≤ v1) → MS E [] s H1 lo1 → PR E x [(x, .inr (11, [.ref (x + 1), .ref (x + 29), .ref (x + 57), .ref (x + 85), .ref (x + 311), .ref (x + 314), .ref (x + 319), .ref (x + 332), .int (zI 0), .int (zI (-1)), .int (zI (-1)), .int (zI 0)]))] H1 → PR E (x + 1) (courtW E (x + 1) co) H1 → HW E x H1 → RW E x v1 T1 H1 → PR E y [(y, .inl (E 102 0, 6, .inl (zA sF)))] H1 → PR E (y + 1) [(y + 1, .inl (E 102 0, 8, .inl (zA (nZ mF))))] H1 → PR E (y + 2) [(y + 2, .inl (E 102 0, 8, .inl (zA qF)))] H1 → V p l e room_1 s m args below meth cd Q 32 H1 lo1 (kq + 110) (nq + 6000) 1465 [(0, .ref (E 107 0)), (1, .ref x), (2, .int (zI t)), (3, .int (zI (co 0 0))), (4, .int (zI (co 0 1))), (5, .int (zI a5)), (6, .int (zI a6)), (7, .int (zI a7)), (8, .int (zI (sumZ (fun j => co 11 j) (co 0 1).toNat))), (9, .int (zI a9)), (10, .int (zI (sumZ (fun k => bz (gpS co (Int.toNat k) 8 &&& (2 ^ Int.toNat k - 1) = 0)) (co 0 1).toNat))), (11, .ref y), (12, .ref (y + 1)), (13, .ref (y + 2))] []) : V p l e room_1 s m args below meth cd Q 32 H lo kq nq 1168 [(0, .ref (E 107 0)), (1, .ref x), (2, .int (zI t)), (3, .int (zI (co 0 0))), (4, .int (zI (co 0 1))), (5, .int (zI a5)), (6, .int (zI a6)), (7, .int (zI a7)), (8, .int (zI 0)), (9, .int (zI a9)), (10, .int (zI 0)), (11, .ref y), (12, .ref (y + 1)), (13, .ref (y + 2))] [] := by
  have hvl := h_w.lt
  have hb0 := hO.b0
  have hbw := hO.bw
  refine v_iconst X dL_law_1168 1169 rfl ?_
  refine v_istore X dL_law_1169 1171 rfl (by decide) (L' := [(14, .int (zI 0)), (0, .ref (E 107 0)), (1, .ref x), (2, .int (zI t)), (3, .int (zI (co 0 0))), (4, .int (zI (co 0 1))), (5, .int (zI a5)), (6, .int (zI a6)), (7, .int (zI a7)), (8, .int (zI 0)), (9, .int (zI a9)), (10, .int (zI 0)), (11, .ref y), (12, .ref (y + 1)), (13, .ref (y + 2))]) rfl ?_
  refine v_locals [1, 2, 3, 4, 5, 6, 7, 8, 9, 10, 11, 12, 13, 14, 0] (L' := [(0, .ref (E 107 0)), (1, .ref x), (2, .int (zI t)), (3, .int (zI (co 0 0))), (4, .int (zI (co 0 1))), (5, .int (zI a5)), (6, .int (zI a6)), (7, .int (zI a7)), (8, .int (zI 0)), (9, .int (zI a9)), (10, .int (zI 0)), (11, .ref y), (12, .ref (y + 1)), (13, .ref (y + 2)), (14, .int (zI 0))]) rfl ?_
  refine V_L (L' := [(0, .ref (E 107 0)), (1, .ref x), (2, .int (zI t)), (3, .int (zI (co 0 0))), (4, .int (zI (co 0 1))), (5, .int (zI a5)), (6, .int (zI a6)), (7, .int (zI a7)), (8, .int (zI (sumZ (fun j => co 11 j) 0))), (9, .int (zI a9)), (10, .int (zI (sumZ (fun k => bz (gpS co (Int.toNat k) 8 &&& (2 ^ Int.toNat k - 1) = 0)) 0))), (11, .ref y), (12, .ref (y + 1)), (13, .ref (y + 2)), (14, .int (zI 0))]) (LC rfl (LC rfl (LC rfl (LC rfl (LC rfl (LC rfl (LC rfl (LC rfl (LC (vz (by rfl)) (LC rfl (LC (vz (by rfl)) (LC rfl (LC rfl (LC rfl (LC rfl rfl))))))))))))))) ?_
  refine up_loop ((co 0 1).toNat) (P := fun (u : Nat) => ∀ (kq_u1171 nq_u1171 : Nat), kq_u1171 ≤ kq + 15 * u → nq_u1171 ≤ nq + 800 * u → ∀ (vv : Nat), ∀ (TT : List Int), (vv < y ∨ y + 3 ≤ vv) → ∀ (H : Heap) (lo : List Loc), MS E [] s H lo → PR E x [(x, .inr (11, [.ref (x + 1), .ref (x + 29), .ref (x + 57), .ref (x + 85), .ref (x + 311), .ref (x + 314), .ref (x + 319), .ref (x + 332), .int (zI 0), .int (zI (-1)), .int (zI (-1)), .int (zI 0)]))] H → PR E (x + 1) (courtW E (x + 1) co) H → HW E x H → RW E x vv TT H → PR E y [(y, .inl (E 102 0, 6, .inl (zA sF)))] H → PR E (y + 1) [(y + 1, .inl (E 102 0, 8, .inl (zA (nZ mF))))] H → PR E (y + 2) [(y + 2, .inl (E 102 0, 8, .inl (zA qF)))] H → V p l e room_1 s m args below meth cd Q 32 H lo kq_u1171 nq_u1171 1171 [(0, .ref (E 107 0)), (1, .ref x), (2, .int (zI t)), (3, .int (zI (co 0 0))), (4, .int (zI (co 0 1))), (5, .int (zI a5)), (6, .int (zI a6)), (7, .int (zI a7)), (8, .int (zI (sumZ (fun j => co 11 j) u))), (9, .int (zI a9)), (10, .int (zI (sumZ (fun k => bz (gpS co (Int.toNat k) 8 &&& (2 ^ Int.toNat k - 1) = 0)) u))), (11, .ref y), (12, .ref (y + 1)), (13, .ref (y + 2)), (14, .int (zI (u : Int)))] []) (fun u hi_u ih_u kq_u1171 nq_u1171 hkq_u hnq_u vv TT hvv H1 lo1 hM h_cm h_co h_hw h_w h_sn h_mt h_sq => ?_) _ _ (by omega) (by omega) v T (by omega) _ _ hM h_cm h_co h_hw h_w h_sn h_mt h_sq
  refine v_iload X dL_law_1171 1173 rfl 14 rfl ?_
  refine v_iload X dL_law_1173 1175 rfl 4 rfl ?_
  have hb_3 := hO.bw
  refine v_icmp_ge X (by omega) (by omega) dL_law_1175 1178 1465 rfl (by decide) (fun c_2 => ?_) (fun c_2 => ?_)
  · skip
    refine v_widen (k' := kq + 110) (n' := nq + 6000) (by omega) (by omega) ?_
    refine v_locals [0, 1, 2, 3, 4, 5, 6, 7, 8, 9, 10, 11, 12, 13] (L' := [(0, .ref (E 107 0)), (1, .ref x), (2, .int (zI t)), (3, .int (zI (co 0 0))), (4, .int (zI (co 0 1))), (5, .int (zI a5)), (6, .int (zI a6)), (7, .int (zI a7)), (8, .int (zI (sumZ (fun j => co 11 j) u))), (9, .int (zI a9)), (10, .int (zI (sumZ (fun k => bz (gpS co (Int.toNat k) 8 &&& (2 ^ Int.toNat k - 1) = 0)) u))), (11, .ref y), (12, .ref (y + 1)), (13, .ref (y + 2))]) rfl ?_
    refine V_L (L' := [(0, .ref (E 107 0)), (1, .ref x), (2, .int (zI t)), (3, .int (zI (co 0 0))), (4, .int (zI (co 0 1))), (5, .int (zI a5)), (6, .int (zI a6)), (7, .int (zI a7)), (8, .int (zI (sumZ (fun j => co 11 j) (co 0 1).toNat))), (9, .int (zI a9)), (10, .int (zI (sumZ (fun k => bz (gpS co (Int.toNat k) 8 &&& (2 ^ Int.toNat k - 1) = 0)) (co 0 1).toNat))), (11, .ref y), (12, .ref (y + 1)), (13, .ref (y + 2))]) (LC rfl (LC rfl (LC rfl (LC rfl (LC rfl (LC rfl (LC rfl (LC rfl (LC (vz (by rw [show u = (co 0 1).toNat by omega])) (LC rfl (LC (vz (by rw [show u = (co 0 1).toNat by omega])) (LC rfl (LC rfl (LC rfl rfl)))))))))))))) ?_
    exact kk _ _ vv TT (by omega) hM h_cm h_co h_hw h_w h_sn h_mt h_sq
  · skip
    have hvw := h_w.lt
    have hmu := hmg (u : Int) (by omega) (by omega)
    have hb11 := hO.b11 (u : Int)
    have hqu := hqf (u : Int) (by omega) (by omega)
    have hch : 0 ≤ chC co (u : Int) ∧ chC co (u : Int) ≤ (co 0 0).toNat := cnt_b (fun j => 0 < co 9 (j * 8 + (u : Int))) _
    have htb := tz_b (mF (u : Int))
    have htz : tzZ (mF (u : Int)) = (u : Int) ↔ gpS co (Int.toNat (u : Int)) 8 &&& (2 ^ Int.toNat (u : Int) - 1) = 0 := by rw [hmu]; exact tz_g (hmu ▸ hmf _) (by omega) (gp_self 8)
    have hnz : mF (u : Int) ≠ 0 := by rw [hmu]; exact gp_nz
    have hgz : sumZ (fun k => (((mF (u : Int) >>> Int.toNat k) &&& 1 : Nat) : Int)) 8 = sumZ (fun j => bz (rtF (co 13) 8 (u : Int) = rtF (co 13) 8 j)) (co 0 1).toNat := by rw [hmu]; exact gp_z hO (gp_inv hD) (by omega) (by omega)
    have hgb := cnt_b (fun j => rtF (co 13) 8 (u : Int) = rtF (co 13) 8 j) (co 0 1).toNat
    have h8b := sumZ_b (f := fun j => co 11 j) (lo := 0) (hi := 9) (n := u) (fun j _ _ => by have := hO.b11 j; omega)
    have h10b := cnt_b (fun k => gpS co (Int.toNat k) 8 &&& (2 ^ Int.toNat k - 1) = 0) u
    refine v_iload X dL_law_1178 1180 rfl 8 rfl ?_
    refine v_aload_n X dL_law_1180 1181 rfl 1 rfl ?_
    refine v_iload X dL_law_1181 1183 rfl 14 rfl ?_
    refine v_rdV X hM.C (PW.app h_cm.1 h_co.1) (c_X9_credibility l E x co 0 (-1) (-1) 0 (u : Int) hO (by omega) (by omega)) kvX9_credibility kiX9_credibility kl_L_119 rfl rfl (As := [.int (zI (u : Int))]) rfl rfl (rm_law0 rfl (by omega) (by omega)) dL_law_1183 1186 rfl ?_
    show V p l e room_1 s m args below meth cd Q 32 H1 lo1 kq_u1171 nq_u1171 1186 [(0, .ref (E 107 0)), (1, .ref x), (2, .int (zI t)), (3, .int (zI (co 0 0))), (4, .int (zI (co 0 1))), (5, .int (zI a5)), (6, .int (zI a6)), (7, .int (zI a7)), (8, .int (zI (sumZ (fun j => co 11 j) u))), (9, .int (zI a9)), (10, .int (zI (sumZ (fun k => bz (gpS co (Int.toNat k) 8 &&& (2 ^ Int.toNat k - 1) = 0)) u))), (11, .ref y), (12, .ref (y + 1)), (13, .ref (y + 2)), (14, .int (zI (u : Int)))] [.int (zI (co 11 (u : Int))), .int (zI (sumZ (fun j => co 11 j) u))]
    have hb_4 := hO.b11 (u : Int)
    refine v_iadd X dL_law_1186 1187 rfl ?_
    refine v_istore X dL_law_1187 1189 rfl (by decide) (L' := [(8, .int (zI (sumZ (fun j => co 11 j) u + co 11 (u : Int)))), (0, .ref (E 107 0)), (1, .ref x), (2, .int (zI t)), (3, .int (zI (co 0 0))), (4, .int (zI (co 0 1))), (5, .int (zI a5)), (6, .int (zI a6)), (7, .int (zI a7)), (9, .int (zI a9)), (10, .int (zI (sumZ (fun k => bz (gpS co (Int.toNat k) 8 &&& (2 ^ Int.toNat k - 1) = 0)) u))), (11, .ref y), (12, .ref (y + 1)), (13, .ref (y + 2)), (14, .int (zI (u : Int)))]) rfl ?_
    refine v_iload X dL_law_1189 1191 rfl 10 rfl ?_
    suffices hJ1191 : ∀ z9 : Int, z9 = (bz (gpS co (Int.toNat (u : Int)) 8 &&& (2 ^ Int.toNat (u : Int) - 1) = 0)) → V p l e room_1 s m args below meth cd Q 32 H1 lo1 kq_u1171 nq_u1171 1209 [(8, .int (zI (sumZ (fun j => co 11 j) u + co 11 (u : Int)))), (0, .ref (E 107 0)), (1, .ref x), (2, .int (zI t)), (3, .int (zI (co 0 0))), (4, .int (zI (co 0 1))), (5, .int (zI a5)), (6, .int (zI a6)), (7, .int (zI a7)), (9, .int (zI a9)), (10, .int (zI (sumZ (fun k => bz (gpS co (Int.toNat k) 8 &&& (2 ^ Int.toNat k - 1) = 0)) u))), (11, .ref y), (12, .ref (y + 1)), (13, .ref (y + 2)), (14, .int (zI (u : Int)))] [.int (zI z9), .int (zI (sumZ (fun k => bz (gpS co (Int.toNat k) 8 &&& (2 ^ Int.toNat k - 1) = 0)) u))] by
      refine v_aload X dL_law_1191 1193 rfl 12 rfl ?_
      refine v_iload X dL_law_1193 1195 rfl 14 rfl ?_
      refine v_iald X hM.C h_mt.1 0 rfl (by omega) (by omega) (by omega) dL_law_1195 1196 rfl ?_
      show V p l e room_1 s m args below meth cd Q 32 H1 lo1 kq_u1171 nq_u1171 1196 [(8, .int (zI (sumZ (fun j => co 11 j) u + co 11 (u : Int)))), (0, .ref (E 107 0)), (1, .ref x), (2, .int (zI t)), (3, .int (zI (co 0 0))), (4, .int (zI (co 0 1))), (5, .int (zI a5)), (6, .int (zI a6)), (7, .int (zI a7)), (9, .int (zI a9)), (10, .int (zI (sumZ (fun k => bz (gpS co (Int.toNat k) 8 &&& (2 ^ Int.toNat k - 1) = 0)) u))), (11, .ref y), (12, .ref (y + 1)), (13, .ref (y + 2)), (14, .int (zI (u : Int)))] [.int (zI ((mF (u : Int) : Nat) : Int)), .int (zI (sumZ (fun k => bz (gpS co (Int.toNat k) 8 &&& (2 ^ Int.toNat k - 1) = 0)) u))]
      refine v_rdS X hM.C (ws0 E H1) (c_J6_ntz l E (mF (u : Int)) (by exact hmf _) (by exact hnz)) kvJ6_numberOfTrailingZeros_0f7a4 ksJ6_numberOfTrailingZeros_0f7a4 kl_L_236 (As := [.int (zI ((mF (u : Int) : Nat) : Int))]) rfl rfl (rm_law0 rfl (by omega) (by omega)) dL_law_1196 1199 rfl ?_
      show V p l e room_1 s m args below meth cd Q 32 H1 lo1 kq_u1171 nq_u1171 1199 [(8, .int (zI (sumZ (fun j => co 11 j) u + co 11 (u : Int)))), (0, .ref (E 107 0)), (1, .ref x), (2, .int (zI t)), (3, .int (zI (co 0 0))), (4, .int (zI (co 0 1))), (5, .int (zI a5)), (6, .int (zI a6)), (7, .int (zI a7)), (9, .int (zI a9)), (10, .int (zI (sumZ (fun k => bz (gpS co (Int.toNat k) 8 &&& (2 ^ Int.toNat k - 1) = 0)) u))), (11, .ref y), (12, .ref (y + 1)), (13, .ref (y + 2)), (14, .int (zI (u : Int)))] [.int (zI (tzZ (mF (u : Int)))), .int (zI (sumZ (fun k => bz (gpS co (Int.toNat k) 8 &&& (2 ^ Int.toNat k - 1) = 0)) u))]
      refine v_iload X dL_law_1199 1201 rfl 14 rfl ?_
      refine v_icmp_ne X (by omega) (by omega) dL_law_1201 1204 1208 rfl (by decide) (fun c_5 => ?_) (fun c_5 => ?_)
      · skip
        refine v_iconst X dL_law_1208 1209 rfl ?_
        exact hJ1191 _ (by exact (bz_f (fun q9 => c_5 (htz.mpr q9))).symm)
      · skip
        refine v_iconst X dL_law_1204 1205 rfl ?_
        refine v_goto X dL_law_1205 1209 (by decide) ?_
        exact hJ1191 _ (by exact (bz_t (htz.mp c_5)).symm)
    intro z9 hz9
    subst hz9
    refine v_iadd X dL_law_1209 1210 rfl ?_
    refine v_istore X dL_law_1210 1212 rfl (by decide) (L' := [(10, .int (zI (sumZ (fun k => bz (gpS co (Int.toNat k) 8 &&& (2 ^ Int.toNat k - 1) = 0)) u + (bz ((gpS co (Int.toNat (u : Int)) 8 &&& (2 ^ Int.toNat (u : Int) - 1) = 0)))))), (8, .int (zI (sumZ (fun j => co 11 j) u + co 11 (u : Int)))), (0, .ref (E 107 0)), (1, .ref x), (2, .int (zI t)), (3, .int (zI (co 0 0))), (4, .int (zI (co 0 1))), (5, .int (zI a5)), (6, .int (zI a6)), (7, .int (zI a7)), (9, .int (zI a9)), (11, .ref y), (12, .ref (y + 1)), (13, .ref (y + 2)), (14, .int (zI (u : Int)))]) rfl ?_
    refine v_aload_n X dL_law_1212 1213 rfl 3 rfl ?_
    refine v_iload X dL_law_1213 1215 rfl 14 rfl ?_
    refine v_rdV X hM.C (PW.app h_cm.1 h_co.1) (c_X9_groupSize l E x co 0 (-1) (-1) 0 (u : Int) hO (by omega) (by omega)) kvX9_groupSize kiX9_groupSize kl_L_241 rfl rfl (As := [.int (zI (u : Int))]) rfl rfl (rm_law0 rfl (by omega) (by omega)) dL_law_1215 1218 rfl ?_
    show V p l e room_1 s m args below meth cd Q 32 H1 lo1 kq_u1171 nq_u1171 1218 [(10, .int (zI (sumZ (fun k => bz (gpS co (Int.toNat k) 8 &&& (2 ^ Int.toNat k - 1) = 0)) u + (bz ((gpS co (Int.toNat (u : Int)) 8 &&& (2 ^ Int.toNat (u : Int) - 1) = 0)))))), (8, .int (zI (sumZ (fun j => co 11 j) u + co 11 (u : Int)))), (0, .ref (E 107 0)), (1, .ref x), (2, .int (zI t)), (3, .int (zI (co 0 0))), (4, .int (zI (co 0 1))), (5, .int (zI a5)), (6, .int (zI a6)), (7, .int (zI a7)), (9, .int (zI a9)), (11, .ref y), (12, .ref (y + 1)), (13, .ref (y + 2)), (14, .int (zI (u : Int)))] [.int (zI (sumZ (fun j => bz (rtF (co 13) 8 (u : Int) = rtF (co 13) 8 j)) (co 0 1).toNat))]
    refine v_aload X dL_law_1218 1220 rfl 12 rfl ?_
    refine v_iload X dL_law_1220 1222 rfl 14 rfl ?_
    refine v_iald X hM.C h_mt.1 0 rfl (by omega) (by omega) (by omega) dL_law_1222 1223 rfl ?_
    show V p l e room_1 s m args below meth cd Q 32 H1 lo1 kq_u1171 nq_u1171 1223 [(10, .int (zI (sumZ (fun k => bz (gpS co (Int.toNat k) 8 &&& (2 ^ Int.toNat k - 1) = 0)) u + (bz ((gpS co (Int.toNat (u : Int)) 8 &&& (2 ^ Int.toNat (u : Int) - 1) = 0)))))), (8, .int (zI (sumZ (fun j => co 11 j) u + co 11 (u : Int)))), (0, .ref (E 107 0)), (1, .ref x), (2, .int (zI t)), (3, .int (zI (co 0 0))), (4, .int (zI (co 0 1))), (5, .int (zI a5)), (6, .int (zI a6)), (7, .int (zI a7)), (9, .int (zI a9)), (11, .ref y), (12, .ref (y + 1)), (13, .ref (y + 2)), (14, .int (zI (u : Int)))] [.int (zI ((mF (u : Int) : Nat) : Int)), .int (zI (sumZ (fun j => bz (rtF (co 13) 8 (u : Int) = rtF (co 13) 8 j)) (co 0 1).toNat))]
    refine v_rdS X hM.C (ws0 E H1) (c_J6_bitCount l E (mF (u : Int)) (by exact hmf _)) kvJ6_bitCount_0f7a4 ksJ6_bitCount_0f7a4 kl_L_244 (As := [.int (zI ((mF (u : Int) : Nat) : Int))]) rfl rfl (rm_law0 rfl (by omega) (by omega)) dL_law_1223 1226 rfl ?_
    show V p l e room_1 s m args below meth cd Q 32 H1 lo1 kq_u1171 nq_u1171 1226 [(10, .int (zI (sumZ (fun k => bz (gpS co (Int.toNat k) 8 &&& (2 ^ Int.toNat k - 1) = 0)) u + (bz ((gpS co (Int.toNat (u : Int)) 8 &&& (2 ^ Int.toNat (u : Int) - 1) = 0)))))), (8, .int (zI (sumZ (fun j => co 11 j) u + co 11 (u : Int)))), (0, .ref (E 107 0)), (1, .ref x), (2, .int (zI t)), (3, .int (zI (co 0 0))), (4, .int (zI (co 0 1))), (5, .int (zI a5)), (6, .int (zI a6)), (7, .int (zI a7)), (9, .int (zI a9)), (11, .ref y), (12, .ref (y + 1)), (13, .ref (y + 2)), (14, .int (zI (u : Int)))] [.int (zI (sumZ (fun k => ((((mF (u : Int)) >>> Int.toNat k) &&& 1 : Nat) : Int)) 8)), .int (zI (sumZ (fun j => bz (rtF (co 13) 8 (u : Int) = rtF (co 13) 8 j)) (co 0 1).toNat))]
    refine v_icmp_ne X (by omega) (by omega) dL_law_1226 1229 1310 rfl (by decide) (fun c_6 => ?_) (fun c_6 => ?_)
    · skip
      exfalso; exact c_6 hgz.symm
    · skip
      refine v_aload_n X dL_law_1229 1230 rfl 3 rfl ?_
      refine v_iload X dL_law_1230 1232 rfl 14 rfl ?_
      refine v_rdV X hM.C (PW.app h_cm.1 h_co.1) (c_X9_casesOfWitness l E x co 0 (-1) (-1) 0 (u : Int) hO (by omega) (by omega)) kvX9_casesOfWitness kiX9_casesOfWitness kl_L_247 rfl rfl (As := [.int (zI (u : Int))]) rfl rfl (rm_law0 rfl (by omega) (by omega)) dL_law_1232 1235 rfl ?_
      show V p l e room_1 s m args below meth cd Q 32 H1 lo1 kq_u1171 nq_u1171 1235 [(10, .int (zI (sumZ (fun k => bz (gpS co (Int.toNat k) 8 &&& (2 ^ Int.toNat k - 1) = 0)) u + (bz ((gpS co (Int.toNat (u : Int)) 8 &&& (2 ^ Int.toNat (u : Int) - 1) = 0)))))), (8, .int (zI (sumZ (fun j => co 11 j) u + co 11 (u : Int)))), (0, .ref (E 107 0)), (1, .ref x), (2, .int (zI t)), (3, .int (zI (co 0 0))), (4, .int (zI (co 0 1))), (5, .int (zI a5)), (6, .int (zI a6)), (7, .int (zI a7)), (9, .int (zI a9)), (11, .ref y), (12, .ref (y + 1)), (13, .ref (y + 2)), (14, .int (zI (u : Int)))] [.int (zI (chC co (u : Int)))]
      refine v_aload X dL_law_1235 1237 rfl 13 rfl ?_
      refine v_iload X dL_law_1237 1239 rfl 14 rfl ?_
      refine v_iald X hM.C h_sq.1 0 rfl (by omega) (by omega) (by omega) dL_law_1239 1240 rfl ?_
      show V p l e room_1 s m args below meth cd Q 32 H1 lo1 kq_u1171 nq_u1171 1240 [(10, .int (zI (sumZ (fun k => bz (gpS co (Int.toNat k) 8 &&& (2 ^ Int.toNat k - 1) = 0)) u + (bz ((gpS co (Int.toNat (u : Int)) 8 &&& (2 ^ Int.toNat (u : Int) - 1) = 0)))))), (8, .int (zI (sumZ (fun j => co 11 j) u + co 11 (u : Int)))), (0, .ref (E 107 0)), (1, .ref x), (2, .int (zI t)), (3, .int (zI (co 0 0))), (4, .int (zI (co 0 1))), (5, .int (zI a5)), (6, .int (zI a6)), (7, .int (zI a7)), (9, .int (zI a9)), (11, .ref y), (12, .ref (y + 1)), (13, .ref (y + 2)), (14, .int (zI (u : Int)))] [.int (zI (qF (u : Int))), .int (zI (chC co (u : Int)))]
      refine v_icmp_ne X (by omega) (by omega) dL_law_1240 1243 1310 rfl (by decide) (fun c_7 => ?_) (fun c_7 => ?_)
      · skip
        exfalso; exact c_7 hqu.symm
      · skip
        refine v_aload_n X dL_law_1243 1244 rfl 3 rfl ?_
        refine v_iload X dL_law_1244 1246 rfl 14 rfl ?_
        refine v_rdV X hM.C (PW.app h_cm.1 h_co.1) (c_X9_credibility l E x co 0 (-1) (-1) 0 (u : Int) hO (by omega) (by omega)) kvX9_credibility kiX9_credibility kl_L_119 rfl rfl (As := [.int (zI (u : Int))]) rfl rfl (rm_law0 rfl (by omega) (by omega)) dL_law_1246 1249 rfl ?_
        show V p l e room_1 s m args below meth cd Q 32 H1 lo1 kq_u1171 nq_u1171 1249 [(10, .int (zI (sumZ (fun k => bz (gpS co (Int.toNat k) 8 &&& (2 ^ Int.toNat k - 1) = 0)) u + (bz ((gpS co (Int.toNat (u : Int)) 8 &&& (2 ^ Int.toNat (u : Int) - 1) = 0)))))), (8, .int (zI (sumZ (fun j => co 11 j) u + co 11 (u : Int)))), (0, .ref (E 107 0)), (1, .ref x), (2, .int (zI t)), (3, .int (zI (co 0 0))), (4, .int (zI (co 0 1))), (5, .int (zI a5)), (6, .int (zI a6)), (7, .int (zI a7)), (9, .int (zI a9)), (11, .ref y), (12, .ref (y + 1)), (13, .ref (y + 2)), (14, .int (zI (u : Int)))] [.int (zI (co 11 (u : Int)))]
        refine v_if_lt X (by omega) dL_law_1249 1252 1310 rfl (by decide) (fun c_8 => ?_) (fun c_8 => ?_)
        · skip
          exfalso; omega
        · skip
          refine v_aload_n X dL_law_1252 1253 rfl 3 rfl ?_
          refine v_iload X dL_law_1253 1255 rfl 14 rfl ?_
          refine v_rdV X hM.C (PW.app h_cm.1 h_co.1) (c_X9_credibility l E x co 0 (-1) (-1) 0 (u : Int) hO (by omega) (by omega)) kvX9_credibility kiX9_credibility kl_L_119 rfl rfl (As := [.int (zI (u : Int))]) rfl rfl (rm_law0 rfl (by omega) (by omega)) dL_law_1255 1258 rfl ?_
          show V p l e room_1 s m args below meth cd Q 32 H1 lo1 kq_u1171 nq_u1171 1258 [(10, .int (zI (sumZ (fun k => bz (gpS co (Int.toNat k) 8 &&& (2 ^ Int.toNat k - 1) = 0)) u + (bz ((gpS co (Int.toNat (u : Int)) 8 &&& (2 ^ Int.toNat (u : Int) - 1) = 0)))))), (8, .int (zI (sumZ (fun j => co 11 j) u + co 11 (u : Int)))), (0, .ref (E 107 0)), (1, .ref x), (2, .int (zI t)), (3, .int (zI (co 0 0))), (4, .int (zI (co 0 1))), (5, .int (zI a5)), (6, .int (zI a6)), (7, .int (zI a7)), (9, .int (zI a9)), (11, .ref y), (12, .ref (y + 1)), (13, .ref (y + 2)), (14, .int (zI (u : Int)))] [.int (zI (co 11 (u : Int)))]
          refine v_bipush X dL_law_1258 1260 rfl rfl ?_
          refine v_icmp_gt X (by omega) (by omega) dL_law_1260 1263 1310 rfl (by decide) (fun c_9 => ?_) (fun c_9 => ?_)
          · skip
            exfalso; omega
          · skip
            refine v_aload_n X dL_law_1263 1264 rfl 3 rfl ?_
            refine v_aload_n X dL_law_1264 1265 rfl 3 rfl ?_
            refine v_iload X dL_law_1265 1267 rfl 14 rfl ?_
            have hsz := (h_sq.1 0 _ rfl).lt
            refine v_muV X hM (h_cm.1) (p_formatWitness l E x co (u : Int) (y + 3) vv TT hO (by omega) (by omega) (by omega)) kvX9_formatWitness kiX9_formatWitness kl_L_250 (q0 := 0) rfl rfl (As := [.int (zI (u : Int))]) rfl rfl (rm_law rfl (by omega) (by omega)) dL_law_1267 1270 rfl (k' := kq_u1171 + 4) (n' := nq_u1171 + 280) rfl rfl (by intro q hq; simp only [Fr, Fs, or_false, false_or] at hq ⊢; omega) ⟨h_cm, h_co, h_w, (by omega)⟩ (fun rv H10 lo10 hM hF hpo => ?_)
            obtain ⟨v1_11, rfl, hp_f_12, hw_0⟩ := hpo
            have h_w : RW E x v1_11 (wtT co (u : Int)) H10 := hw_0
            clear hw_0
            replace h_cm := h_cm.kept hF 1 rfl (by intro q q1 q2 q3; simp only [Fs, or_false] at q3; omega)
            replace h_co := h_co.kept hF 28 rfl (by intro q q1 q2 q3; simp only [Fs, or_false] at q3; omega)
            replace h_hw := h_hw.kept hF (by intro q q1 q2 q3; simp only [Fs, or_false] at q3; omega)
            replace h_sn := h_sn.kept hF 1 rfl (by intro q q1 q2 q3; simp only [Fs, or_false] at q3; omega)
            replace h_mt := h_mt.kept hF 1 rfl (by intro q q1 q2 q3; simp only [Fs, or_false] at q3; omega)
            replace h_sq := h_sq.kept hF 1 rfl (by intro q q1 q2 q3; simp only [Fs, or_false] at q3; omega)
            show V p l e room_1 s m args below meth cd Q 32 H10 lo10 (kq_u1171 + 4) (nq_u1171 + 280) 1270 [(10, .int (zI (sumZ (fun k => bz (gpS co (Int.toNat k) 8 &&& (2 ^ Int.toNat k - 1) = 0)) u + (bz ((gpS co (Int.toNat (u : Int)) 8 &&& (2 ^ Int.toNat (u : Int) - 1) = 0)))))), (8, .int (zI (sumZ (fun j => co 11 j) u + co 11 (u : Int)))), (0, .ref (E 107 0)), (1, .ref x), (2, .int (zI t)), (3, .int (zI (co 0 0))), (4, .int (zI (co 0 1))), (5, .int (zI a5)), (6, .int (zI a6)), (7, .int (zI a7)), (9, .int (zI a9)), (11, .ref y), (12, .ref (y + 1)), (13, .ref (y + 2)), (14, .int (zI (u : Int)))] [.int (zI ((wtT co (u : Int)).length : Int)), .ref x]
            obtain ⟨b0, hz⟩ : ∃ o9 : Nat, H10.size = o9 := ⟨_, rfl⟩
            have hvb_13 : v1_11 < b0 := by have := h_w.lt; omega
            have hyb_14 : y + 2 + 1 ≤ b0 := by have := (h_sq.1 0 _ rfl).lt; omega
            refine v_new (ci := 1) X hM ftJ4 kc_L_152 kins_J4 kini_java_lang_StringBuilder rfl dfJ4 (rm_nw (by show _ ≤ 683119; omega) (by show _ ≤ 7044570; omega)) dL_law_1270 1273 rfl (k' := kq_u1171 + 5) (n' := nq_u1171 + 284) rfl rfl (fun o H15 ho hz1 hM hF h_new => ?_)
            obtain rfl : b0 = o := (ho.trans hz).symm
            replace hz : H15.size = b0 + 1 := hz1
            clear ho hz1
            have h_n_16 : PR E b0 [(b0, .inr (1, [.null, .int 0, .int 0, .int 0]))] H15 := h_new
            replace h_cm := h_cm.kept hF 1 rfl (fun q _ _ h => h.elim)
            replace h_co := h_co.kept hF 28 rfl (fun q _ _ h => h.elim)
            replace h_hw := h_hw.kept hF (fun q _ _ h => h.elim)
            replace h_w := h_w.kept hF (fun q _ h => h.elim)
            replace h_sn := h_sn.kept hF 1 rfl (fun q _ _ h => h.elim)
            replace h_mt := h_mt.kept hF 1 rfl (fun q _ _ h => h.elim)
            replace h_sq := h_sq.kept hF 1 rfl (fun q _ _ h => h.elim)
            refine v_dup X dL_law_1273 1274 rfl rfl ?_
            refine v_muI X hM (c_J4_init_da8c8 l E b0) rfl kvJ4_init_da8c8 kiiJ4_init_da8c8 rfl kl_L_154 (As := []) rfl rfl (rm_law rfl (by omega) (by omega)) dL_law_1274 1277 rfl (k' := kq_u1171 + 6) (n' := nq_u1171 + 300) rfl rfl (fsI (fun q q1 q2 => Or.inr (by omega))) ⟨h_n_16, hz⟩ (fun rv H17 lo17 hM hF hpo => ?_)
            obtain ⟨rfl, hw_0, hz9⟩ := hpo
            clear hz
            clear h_n_16
            have hv9 : b0 + 1 ≤ b0 + 1 := Nat.le_refl _
            have hzl : b0 + 2 ≤ H17.size := by omega
            clear hz9
            replace h_cm := h_cm.kept hF 1 rfl (by intro q q1 q2 q3; simp only [Fs, or_false] at q3; omega)
            replace h_co := h_co.kept hF 28 rfl (by intro q q1 q2 q3; simp only [Fs, or_false] at q3; omega)
            replace h_hw := h_hw.kept hF (by intro q q1 q2 q3; simp only [Fs, or_false] at q3; omega)
            replace h_w := h_w.kept hF (by intro q q1 q3; simp only [Fs, or_false] at q3; omega)
            replace h_sn := h_sn.kept hF 1 rfl (by intro q q1 q2 q3; simp only [Fs, or_false] at q3; omega)
            replace h_mt := h_mt.kept hF 1 rfl (by intro q q1 q2 q3; simp only [Fs, or_false] at q3; omega)
            replace h_sq := h_sq.kept hF 1 rfl (by intro q q1 q2 q3; simp only [Fs, or_false] at q3; omega)
            have h_sb : PR E b0 [(b0, .inr (1, [.ref (b0 + 1), .int (zI 0), .int (zI 0), .int (zI 0)]))] H17 := hw_0.sub 0 1 rfl rfl
            have h_sa : PR E (b0 + 1) [(b0 + 1, .inl (E 102 2, 16, .inl (zA (fun _ => 0))))] H17 := hw_0.sub 1 1 rfl rfl
            clear hw_0
            have hT9 : SBs (fun _ => 0) 16 0 [] := ⟨Or.inl rfl, by decide, fun _ => ⟨Int.le_refl _, (by decide : (0 : Int) < 128)⟩, LT.nil⟩
            show V p l e room_1 s m args below meth cd Q 32 H17 lo17 (kq_u1171 + 6) (nq_u1171 + 300) 1277 [(10, .int (zI (sumZ (fun k => bz (gpS co (Int.toNat k) 8 &&& (2 ^ Int.toNat k - 1) = 0)) u + (bz ((gpS co (Int.toNat (u : Int)) 8 &&& (2 ^ Int.toNat (u : Int) - 1) = 0)))))), (8, .int (zI (sumZ (fun j => co 11 j) u + co 11 (u : Int)))), (0, .ref (E 107 0)), (1, .ref x), (2, .int (zI t)), (3, .int (zI (co 0 0))), (4, .int (zI (co 0 1))), (5, .int (zI a5)), (6, .int (zI a6)), (7, .int (zI a7)), (9, .int (zI a9)), (11, .ref y), (12, .ref (y + 1)), (13, .ref (y + 2)), (14, .int (zI (u : Int)))] [.ref b0, .int (zI ((wtT co (u : Int)).length : Int)), .ref x]
            refine v_kws X hM.C (35 + 11) rfl rfl rfl dL_law_1277 1279 rfl ?_
            refine v_muV X hM h_sb.1 (c_J4_appK1 l E b0 (b0 + 1) 16 (fun _ => 0) 0 0 (b0 + 2) 11 119 [] (by decide) (by decide +kernel) (by omega) hT9 (by omega) (by omega)) kvJ4_append_15ec4 kiJ4_append_15ec4 kl_L_161 (q0 := 0) rfl rfl (As := [.ref (E 105 (35 + 11))]) rfl rfl (rm_law rfl (by omega) (by omega)) dL_law_1279 1282 rfl (k' := kq_u1171 + 7) (n' := nq_u1171 + 370) rfl rfl (by intro q hq; simp only [Fr, Fs, or_false, false_or] at hq ⊢; omega) ⟨h_sb, h_sa, hzl⟩ (fun rv H18 lo18 hM hF hpo => ?_)
            obtain ⟨v_19, N_20, f_21, rfl, hp9, hT8, hw_0, hw_1⟩ := hpo
            have hv8 : b0 + 1 ≤ v_19 := by omega
            replace hzl := Nat.le_trans hzl hF.1
            replace h_cm := h_cm.kept hF 1 rfl (by intro q q1 q2 q3; simp only [Fs, or_false] at q3; omega)
            replace h_co := h_co.kept hF 28 rfl (by intro q q1 q2 q3; simp only [Fs, or_false] at q3; omega)
            replace h_hw := h_hw.kept hF (by intro q q1 q2 q3; simp only [Fs, or_false] at q3; omega)
            replace h_w := h_w.kept hF (by intro q q1 q3; simp only [Fs, or_false] at q3; omega)
            replace h_sn := h_sn.kept hF 1 rfl (by intro q q1 q2 q3; simp only [Fs, or_false] at q3; omega)
            replace h_mt := h_mt.kept hF 1 rfl (by intro q q1 q2 q3; simp only [Fs, or_false] at q3; omega)
            replace h_sq := h_sq.kept hF 1 rfl (by intro q q1 q2 q3; simp only [Fs, or_false] at q3; omega)
            clear hp9 hT9 hv9
            have hv9 := hv8
            clear hv8
            have hT9 := hT8
            clear hT8
            have h_sb : PR E b0 [(b0, .inr (1, [.ref v_19, .int (zI 0), .int (zI 0), .int (zI (0 + 1))]))] H18 := hw_0
            have h_sa : PR E v_19 [(v_19, .inl (E 102 2, N_20, .inl (zA f_21)))] H18 := hw_1
            clear hw_0 hw_1
            show V p l e room_1 s m args below meth cd Q 32 H18 lo18 (kq_u1171 + 7) (nq_u1171 + 370) 1282 [(10, .int (zI (sumZ (fun k => bz (gpS co (Int.toNat k) 8 &&& (2 ^ Int.toNat k - 1) = 0)) u + (bz ((gpS co (Int.toNat (u : Int)) 8 &&& (2 ^ Int.toNat (u : Int) - 1) = 0)))))), (8, .int (zI (sumZ (fun j => co 11 j) u + co 11 (u : Int)))), (0, .ref (E 107 0)), (1, .ref x), (2, .int (zI t)), (3, .int (zI (co 0 0))), (4, .int (zI (co 0 1))), (5, .int (zI a5)), (6, .int (zI a6)), (7, .int (zI a7)), (9, .int (zI a9)), (11, .ref y), (12, .ref (y + 1)), (13, .ref (y + 2)), (14, .int (zI (u : Int)))] [.ref b0, .int (zI ((wtT co (u : Int)).length : Int)), .ref x]
            refine v_iload X dL_law_1282 1284 rfl 14 rfl ?_
            refine v_muV X hM h_sb.1 (c_J4_appS l E b0 v_19 N_20 f_21 0 (0 + 1) (b0 + 2) (u : Int) ([] ++ [119]) (by omega) (by omega) (by omega) hT9 (by omega) (by omega)) kvJ4_append_bf812 kiJ4_append_bf812 kl_L_155 (q0 := 0) rfl rfl (As := [.int (zI (u : Int))]) rfl rfl (rm_law rfl (by omega) (by omega)) dL_law_1284 1287 rfl (k' := kq_u1171 + 8) (n' := nq_u1171 + 440) rfl rfl (by intro q hq; simp only [Fr, Fs, or_false, false_or] at hq ⊢; omega) ⟨h_sb, h_sa, hzl⟩ (fun rv H22 lo22 hM hF hpo => ?_)
            obtain ⟨v_23, N_24, f_25, rfl, hp9, hT8, hw_0, hw_1⟩ := hpo
            have hv8 : b0 + 1 ≤ v_23 := by omega
            replace hzl := Nat.le_trans hzl hF.1
            replace h_cm := h_cm.kept hF 1 rfl (by intro q q1 q2 q3; simp only [Fs, or_false] at q3; omega)
            replace h_co := h_co.kept hF 28 rfl (by intro q q1 q2 q3; simp only [Fs, or_false] at q3; omega)
            replace h_hw := h_hw.kept hF (by intro q q1 q2 q3; simp only [Fs, or_false] at q3; omega)
            replace h_w := h_w.kept hF (by intro q q1 q3; simp only [Fs, or_false] at q3; omega)
            replace h_sn := h_sn.kept hF 1 rfl (by intro q q1 q2 q3; simp only [Fs, or_false] at q3; omega)
            replace h_mt := h_mt.kept hF 1 rfl (by intro q q1 q2 q3; simp only [Fs, or_false] at q3; omega)
            replace h_sq := h_sq.kept hF 1 rfl (by intro q q1 q2 q3; simp only [Fs, or_false] at q3; omega)
            clear hp9 hT9 hv9
            have hv9 := hv8
            clear hv8
            have hT9 := hT8
            clear hT8
            have h_sb : PR E b0 [(b0, .inr (1, [.ref v_23, .int (zI 0), .int (zI 0), .int (zI (0 + 1 + 1))]))] H22 := hw_0
            have h_sa : PR E v_23 [(v_23, .inl (E 102 2, N_24, .inl (zA f_25)))] H22 := hw_1
            clear hw_0 hw_1
            show V p l e room_1 s m args below meth cd Q 32 H22 lo22 (kq_u1171 + 8) (nq_u1171 + 440) 1287 [(10, .int (zI (sumZ (fun k => bz (gpS co (Int.toNat k) 8 &&& (2 ^ Int.toNat k - 1) = 0)) u + (bz ((gpS co (Int.toNat (u : Int)) 8 &&& (2 ^ Int.toNat (u : Int) - 1) = 0)))))), (8, .int (zI (sumZ (fun j => co 11 j) u + co 11 (u : Int)))), (0, .ref (E 107 0)), (1, .ref x), (2, .int (zI t)), (3, .int (zI (co 0 0))), (4, .int (zI (co 0 1))), (5, .int (zI a5)), (6, .int (zI a6)), (7, .int (zI a7)), (9, .int (zI a9)), (11, .ref y), (12, .ref (y + 1)), (13, .ref (y + 2)), (14, .int (zI (u : Int)))] [.ref b0, .int (zI ((wtT co (u : Int)).length : Int)), .ref x]
            refine v_kws X hM.C (35 + 12) rfl rfl rfl dL_law_1287 1289 rfl ?_
            refine v_muV X hM h_sb.1 (c_J4_appK1 l E b0 v_23 N_24 f_25 0 (0 + 1 + 1) (b0 + 2) 12 61 ([] ++ [119] ++ [48 + (u : Int)]) (by decide) (by decide +kernel) (by omega) hT9 (by omega) (by omega)) kvJ4_append_15ec4 kiJ4_append_15ec4 kl_L_161 (q0 := 0) rfl rfl (As := [.ref (E 105 (35 + 12))]) rfl rfl (rm_law rfl (by omega) (by omega)) dL_law_1289 1292 rfl (k' := kq_u1171 + 9) (n' := nq_u1171 + 510) rfl rfl (by intro q hq; simp only [Fr, Fs, or_false, false_or] at hq ⊢; omega) ⟨h_sb, h_sa, hzl⟩ (fun rv H26 lo26 hM hF hpo => ?_)
            obtain ⟨v_27, N_28, f_29, rfl, hp9, hT8, hw_0, hw_1⟩ := hpo
            have hv8 : b0 + 1 ≤ v_27 := by omega
            replace hzl := Nat.le_trans hzl hF.1
            replace h_cm := h_cm.kept hF 1 rfl (by intro q q1 q2 q3; simp only [Fs, or_false] at q3; omega)
            replace h_co := h_co.kept hF 28 rfl (by intro q q1 q2 q3; simp only [Fs, or_false] at q3; omega)
            replace h_hw := h_hw.kept hF (by intro q q1 q2 q3; simp only [Fs, or_false] at q3; omega)
            replace h_w := h_w.kept hF (by intro q q1 q3; simp only [Fs, or_false] at q3; omega)
            replace h_sn := h_sn.kept hF 1 rfl (by intro q q1 q2 q3; simp only [Fs, or_false] at q3; omega)
            replace h_mt := h_mt.kept hF 1 rfl (by intro q q1 q2 q3; simp only [Fs, or_false] at q3; omega)
            replace h_sq := h_sq.kept hF 1 rfl (by intro q q1 q2 q3; simp only [Fs, or_false] at q3; omega)
            clear hp9 hT9 hv9
            have hv9 := hv8
            clear hv8
            have hT9 := hT8
            clear hT8
            have h_sb : PR E b0 [(b0, .inr (1, [.ref v_27, .int (zI 0), .int (zI 0), .int (zI (0 + 1 + 1 + 1))]))] H26 := hw_0
            have h_sa : PR E v_27 [(v_27, .inl (E 102 2, N_28, .inl (zA f_29)))] H26 := hw_1
            clear hw_0 hw_1
            show V p l e room_1 s m args below meth cd Q 32 H26 lo26 (kq_u1171 + 9) (nq_u1171 + 510) 1292 [(10, .int (zI (sumZ (fun k => bz (gpS co (Int.toNat k) 8 &&& (2 ^ Int.toNat k - 1) = 0)) u + (bz ((gpS co (Int.toNat (u : Int)) 8 &&& (2 ^ Int.toNat (u : Int) - 1) = 0)))))), (8, .int (zI (sumZ (fun j => co 11 j) u + co 11 (u : Int)))), (0, .ref (E 107 0)), (1, .ref x), (2, .int (zI t)), (3, .int (zI (co 0 0))), (4, .int (zI (co 0 1))), (5, .int (zI a5)), (6, .int (zI a6)), (7, .int (zI a7)), (9, .int (zI a9)), (11, .ref y), (12, .ref (y + 1)), (13, .ref (y + 2)), (14, .int (zI (u : Int)))] [.ref b0, .int (zI ((wtT co (u : Int)).length : Int)), .ref x]
            refine v_aload_n X dL_law_1292 1293 rfl 3 rfl ?_
            refine v_iload X dL_law_1293 1295 rfl 14 rfl ?_
            refine v_rdV X hM.C (PW.app h_cm.1 h_co.1) (c_X9_credibility l E x co 0 (-1) (-1) 0 (u : Int) hO (by omega) (by omega)) kvX9_credibility kiX9_credibility kl_L_119 rfl rfl (As := [.int (zI (u : Int))]) rfl rfl (rm_law0 rfl (by omega) (by omega)) dL_law_1295 1298 rfl ?_
            show V p l e room_1 s m args below meth cd Q 32 H26 lo26 (kq_u1171 + 9) (nq_u1171 + 510) 1298 [(10, .int (zI (sumZ (fun k => bz (gpS co (Int.toNat k) 8 &&& (2 ^ Int.toNat k - 1) = 0)) u + (bz ((gpS co (Int.toNat (u : Int)) 8 &&& (2 ^ Int.toNat (u : Int) - 1) = 0)))))), (8, .int (zI (sumZ (fun j => co 11 j) u + co 11 (u : Int)))), (0, .ref (E 107 0)), (1, .ref x), (2, .int (zI t)), (3, .int (zI (co 0 0))), (4, .int (zI (co 0 1))), (5, .int (zI a5)), (6, .int (zI a6)), (7, .int (zI a7)), (9, .int (zI a9)), (11, .ref y), (12, .ref (y + 1)), (13, .ref (y + 2)), (14, .int (zI (u : Int)))] [.int (zI (co 11 (u : Int))), .ref b0, .int (zI ((wtT co (u : Int)).length : Int)), .ref x]
            refine v_muV X hM h_sb.1 (c_J4_appS l E b0 v_27 N_28 f_29 0 (0 + 1 + 1 + 1) (b0 + 2) (co 11 (u : Int)) ([] ++ [119] ++ [48 + (u : Int)] ++ [61]) (by omega) (by omega) (by omega) hT9 (by omega) (by omega)) kvJ4_append_bf812 kiJ4_append_bf812 kl_L_155 (q0 := 0) rfl rfl (As := [.int (zI (co 11 (u : Int)))]) rfl rfl (rm_law rfl (by omega) (by omega)) dL_law_1298 1301 rfl (k' := kq_u1171 + 10) (n' := nq_u1171 + 580) rfl rfl (by intro q hq; simp only [Fr, Fs, or_false, false_or] at hq ⊢; omega) ⟨h_sb, h_sa, hzl⟩ (fun rv H30 lo30 hM hF hpo => ?_)
            obtain ⟨v_31, N_32, f_33, rfl, hp9, hT8, hw_0, hw_1⟩ := hpo
            have hv8 : b0 + 1 ≤ v_31 := by omega
            replace hzl := Nat.le_trans hzl hF.1
            replace h_cm := h_cm.kept hF 1 rfl (by intro q q1 q2 q3; simp only [Fs, or_false] at q3; omega)
            replace h_co := h_co.kept hF 28 rfl (by intro q q1 q2 q3; simp only [Fs, or_false] at q3; omega)
            replace h_hw := h_hw.kept hF (by intro q q1 q2 q3; simp only [Fs, or_false] at q3; omega)
            replace h_w := h_w.kept hF (by intro q q1 q3; simp only [Fs, or_false] at q3; omega)
            replace h_sn := h_sn.kept hF 1 rfl (by intro q q1 q2 q3; simp only [Fs, or_false] at q3; omega)
            replace h_mt := h_mt.kept hF 1 rfl (by intro q q1 q2 q3; simp only [Fs, or_false] at q3; omega)
            replace h_sq := h_sq.kept hF 1 rfl (by intro q q1 q2 q3; simp only [Fs, or_false] at q3; omega)
            clear hp9 hT9 hv9
            have hv9 := hv8
            clear hv8
            have hT9 := hT8
            clear hT8
            have h_sb : PR E b0 [(b0, .inr (1, [.ref v_31, .int (zI 0), .int (zI 0), .int (zI (0 + 1 + 1 + 1 + 1))]))] H30 := hw_0
            have h_sa : PR E v_31 [(v_31, .inl (E 102 2, N_32, .inl (zA f_33)))] H30 := hw_1
            clear hw_0 hw_1
            show V p l e room_1 s m args below meth cd Q 32 H30 lo30 (kq_u1171 + 10) (nq_u1171 + 580) 1301 [(10, .int (zI (sumZ (fun k => bz (gpS co (Int.toNat k) 8 &&& (2 ^ Int.toNat k - 1) = 0)) u + (bz ((gpS co (Int.toNat (u : Int)) 8 &&& (2 ^ Int.toNat (u : Int) - 1) = 0)))))), (8, .int (zI (sumZ (fun j => co 11 j) u + co 11 (u : Int)))), (0, .ref (E 107 0)), (1, .ref x), (2, .int (zI t)), (3, .int (zI (co 0 0))), (4, .int (zI (co 0 1))), (5, .int (zI a5)), (6, .int (zI a6)), (7, .int (zI a7)), (9, .int (zI a9)), (11, .ref y), (12, .ref (y + 1)), (13, .ref (y + 2)), (14, .int (zI (u : Int)))] [.ref b0, .int (zI ((wtT co (u : Int)).length : Int)), .ref x]
            obtain ⟨w9, hw9⟩ : ∃ w9 : Nat, (0 + 1 + 1 + 1 + 1 : Int) = (w9 : Int) := ⟨Int.toNat (0 + 1 + 1 + 1 + 1), (Int.toNat_of_nonneg (by have := hT9.n0; omega)).symm⟩
            rw [hw9] at h_sb hT9
            obtain ⟨b1, hz⟩ : ∃ o9 : Nat, H30.size = o9 := ⟨_, rfl⟩
            have hvb_34 : v1_11 < b1 := by have := h_w.lt; omega
            have hyb_35 : y + 2 + 1 ≤ b1 := by have := (h_sq.1 0 _ rfl).lt; omega
            refine v_muV X hM h_sb.1 (c_J4_toString l E b0 v_31 N_32 f_33 0 w9 b1 (by have := hT9.2.1; omega) (by have := hT9.1; omega) hT9.2.2.1) kvJ4_toString_0e30d kiJ4_toString_0e30d kl_L_179 (q0 := 0) rfl rfl (As := []) rfl rfl (rm_law rfl (by omega) (by omega)) dL_law_1301 1304 rfl (k' := kq_u1171 + 12) (n' := nq_u1171 + 654) rfl rfl (fun q hq => hq.elim) ⟨h_sb, h_sa, hz⟩ (fun rv H36 lo36 hM hF hpo => ?_)
            obtain ⟨f_37, rfl, hp8, hp9, hw_0, hz9⟩ := hpo
            clear h_sb
            clear h_sa
            replace hzl := Nat.le_trans hzl hF.1
            replace h_cm := h_cm.kept hF 1 rfl (fun q _ _ h => h.elim)
            replace h_co := h_co.kept hF 28 rfl (fun q _ _ h => h.elim)
            replace h_hw := h_hw.kept hF (fun q _ _ h => h.elim)
            replace h_w := h_w.kept hF (fun q _ h => h.elim)
            replace h_sn := h_sn.kept hF 1 rfl (fun q _ _ h => h.elim)
            replace h_mt := h_mt.kept hF 1 rfl (fun q _ _ h => h.elim)
            replace h_sq := h_sq.kept hF 1 rfl (fun q _ _ h => h.elim)
            have h_ls : StrW E b1 ([] ++ [119] ++ [48 + (u : Int)] ++ [61] ++ [48 + co 11 (u : Int)]) H36 := ⟨(w9, f_37), ⟨⟨hT9.2.2.2.1, fun j hj => by rw [hT9.2.2.2.2 j hj]; exact congrArg some (hp8 (j : Int) ⟨by omega, by have := hT9.2.2.2.1; omega⟩).symm⟩, hp9, by have := hT9.2.1; have := hT9.1; dsimp only; omega⟩, hw_0⟩
            clear hp8 hp9 hw_0 hz hz9 hw9 hT9 hzl hv9
            show V p l e room_1 s m args below meth cd Q 32 H36 lo36 (kq_u1171 + 12) (nq_u1171 + 654) 1304 [(10, .int (zI (sumZ (fun k => bz (gpS co (Int.toNat k) 8 &&& (2 ^ Int.toNat k - 1) = 0)) u + (bz ((gpS co (Int.toNat (u : Int)) 8 &&& (2 ^ Int.toNat (u : Int) - 1) = 0)))))), (8, .int (zI (sumZ (fun j => co 11 j) u + co 11 (u : Int)))), (0, .ref (E 107 0)), (1, .ref x), (2, .int (zI t)), (3, .int (zI (co 0 0))), (4, .int (zI (co 0 1))), (5, .int (zI a5)), (6, .int (zI a6)), (7, .int (zI a7)), (9, .int (zI a9)), (11, .ref y), (12, .ref (y + 1)), (13, .ref (y + 2)), (14, .int (zI (u : Int)))] [.ref b1, .int (zI ((wtT co (u : Int)).length : Int)), .ref x]
            refine v_muS X hM (p_isLine l E x v1_11 (wtT co (u : Int)) b1) kvL_isLine ksL_isLine kl_L_228 (As := [.ref x, .int (zI ((wtT co (u : Int)).length : Int)), .ref b1]) rfl rfl (rm_law rfl (by omega) (by omega)) dL_law_1304 1307 rfl (k' := kq_u1171 + 12) (n' := nq_u1171 + 654) rfl rfl (fun q hq => hq.elim) ⟨h_cm, h_w, h_ls⟩ (fun rv H38 lo38 hM hF hpo => ?_)
            obtain ⟨rfl, hw_0, hw_1⟩ := hpo
            have h_w : RW E x v1_11 (wtT co (u : Int)) H38 := hw_0
            clear hw_0
            have h_ls : StrW E b1 (wtT co (u : Int)) H38 := hw_1
            clear hw_1
            replace h_cm := h_cm.kept hF 1 rfl (fun q _ _ h => h.elim)
            replace h_co := h_co.kept hF 28 rfl (fun q _ _ h => h.elim)
            replace h_hw := h_hw.kept hF (fun q _ _ h => h.elim)
            replace h_sn := h_sn.kept hF 1 rfl (fun q _ _ h => h.elim)
            replace h_mt := h_mt.kept hF 1 rfl (fun q _ _ h => h.elim)
            replace h_sq := h_sq.kept hF 1 rfl (fun q _ _ h => h.elim)
            show V p l e room_1 s m args below meth cd Q 32 H38 lo38 (kq_u1171 + 12) (nq_u1171 + 654) 1307 [(10, .int (zI (sumZ (fun k => bz (gpS co (Int.toNat k) 8 &&& (2 ^ Int.toNat k - 1) = 0)) u + (bz ((gpS co (Int.toNat (u : Int)) 8 &&& (2 ^ Int.toNat (u : Int) - 1) = 0)))))), (8, .int (zI (sumZ (fun j => co 11 j) u + co 11 (u : Int)))), (0, .ref (E 107 0)), (1, .ref x), (2, .int (zI t)), (3, .int (zI (co 0 0))), (4, .int (zI (co 0 1))), (5, .int (zI a5)), (6, .int (zI a6)), (7, .int (zI a7)), (9, .int (zI a9)), (11, .ref y), (12, .ref (y + 1)), (13, .ref (y + 2)), (14, .int (zI (u : Int)))] [.int (zI 1)]
            refine v_if_ne X (by omega) dL_law_1307 1310 1312 rfl (by decide) (fun c_39 => ?_) (fun c_39 => ?_)
            · skip
              clear h_ls
              refine v_iconst X dL_law_1312 1313 rfl ?_
              refine v_istore X dL_law_1313 1315 rfl (by decide) (L' := [(15, .int (zI 0)), (10, .int (zI (sumZ (fun k => bz (gpS co (Int.toNat k) 8 &&& (2 ^ Int.toNat k - 1) = 0)) u + (bz ((gpS co (Int.toNat (u : Int)) 8 &&& (2 ^ Int.toNat (u : Int) - 1) = 0)))))), (8, .int (zI (sumZ (fun j => co 11 j) u + co 11 (u : Int)))), (0, .ref (E 107 0)), (1, .ref x), (2, .int (zI t)), (3, .int (zI (co 0 0))), (4, .int (zI (co 0 1))), (5, .int (zI a5)), (6, .int (zI a6)), (7, .int (zI a7)), (9, .int (zI a9)), (11, .ref y), (12, .ref (y + 1)), (13, .ref (y + 2)), (14, .int (zI (u : Int)))]) rfl ?_
              refine v_locals [0, 2, 1, 3, 4, 5, 6, 7, 8, 9, 10, 11, 12, 13, 14, 15] (L' := [(15, .int (zI 0)), (8, .int (zI (sumZ (fun j => co 11 j) u + co 11 (u : Int)))), (10, .int (zI (sumZ (fun k => bz (gpS co (Int.toNat k) 8 &&& (2 ^ Int.toNat k - 1) = 0)) u + (bz ((gpS co (Int.toNat (u : Int)) 8 &&& (2 ^ Int.toNat (u : Int) - 1) = 0)))))), (0, .ref (E 107 0)), (1, .ref x), (2, .int (zI t)), (3, .int (zI (co 0 0))), (4, .int (zI (co 0 1))), (5, .int (zI a5)), (6, .int (zI a6)), (7, .int (zI a7)), (9, .int (zI a9)), (11, .ref y), (12, .ref (y + 1)), (13, .ref (y + 2)), (14, .int (zI (u : Int)))]) rfl ?_
              refine V_L (L' := [(15, .int (zI 0)), (8, .int (zI (sumZ (fun j => co 11 j) u + co 11 (u : Int)))), (10, .int (zI (sumZ (fun k => bz (gpS co (Int.toNat k) 8 &&& (2 ^ Int.toNat k - 1) = 0)) u + bz (gpS co (Int.toNat (u : Int)) 8 &&& (2 ^ Int.toNat (u : Int) - 1) = 0)))), (0, .ref (E 107 0)), (1, .ref x), (2, .int (zI t)), (3, .int (zI (co 0 0))), (4, .int (zI (co 0 1))), (5, .int (zI a5)), (6, .int (zI a6)), (7, .int (zI a7)), (9, .int (zI a9)), (11, .ref y), (12, .ref (y + 1)), (13, .ref (y + 2)), (14, .int (zI (u : Int)))]) (LC rfl (LC rfl (LC (vz (by omega)) (LC rfl (LC rfl (LC rfl (LC rfl (LC rfl (LC rfl (LC rfl (LC rfl (LC rfl (LC rfl (LC rfl (LC rfl (LC rfl rfl)))))))))))))))) ?_
              refine up_loop ((co 0 1).toNat) (P := fun (i : Nat) => ∀ (H : Heap) (lo : List Loc), MS E [] s H lo → PR E x [(x, .inr (11, [.ref (x + 1), .ref (x + 29), .ref (x + 57), .ref (x + 85), .ref (x + 311), .ref (x + 314), .ref (x + 319), .ref (x + 332), .int (zI 0), .int (zI (-1)), .int (zI (-1)), .int (zI 0)]))] H → PR E (x + 1) (courtW E (x + 1) co) H → HW E x H → RW E x v1_11 (wtT co (u : Int)) H → PR E y [(y, .inl (E 102 0, 6, .inl (zA sF)))] H → PR E (y + 1) [(y + 1, .inl (E 102 0, 8, .inl (zA (nZ mF))))] H → PR E (y + 2) [(y + 2, .inl (E 102 0, 8, .inl (zA qF)))] H → V p l e room_1 s m args below meth cd Q 32 H lo (kq_u1171 + 12) (nq_u1171 + 654) 1315 [(15, .int (zI (i : Int))), (8, .int (zI (sumZ (fun j => co 11 j) u + co 11 (u : Int)))), (10, .int (zI (sumZ (fun k => bz (gpS co (Int.toNat k) 8 &&& (2 ^ Int.toNat k - 1) = 0)) u + bz (gpS co (Int.toNat (u : Int)) 8 &&& (2 ^ Int.toNat (u : Int) - 1) = 0)))), (0, .ref (E 107 0)), (1, .ref x), (2, .int (zI t)), (3, .int (zI (co 0 0))), (4, .int (zI (co 0 1))), (5, .int (zI a5)), (6, .int (zI a6)), (7, .int (zI a7)), (9, .int (zI a9)), (11, .ref y), (12, .ref (y + 1)), (13, .ref (y + 2)), (14, .int (zI (u : Int)))] []) (fun i hi_i ih_i H40 lo40 hM h_cm h_co h_hw h_w h_sn h_mt h_sq => ?_) _ _ hM h_cm h_co h_hw h_w h_sn h_mt h_sq
              refine v_iload X dL_law_1315 1317 rfl 0 rfl ?_
              refine v_iload X dL_law_1317 1319 rfl 7 rfl ?_
              refine v_icmp_ge X (by omega) (by omega) dL_law_1319 1322 1459 rfl (by decide) (fun c_41 => ?_) (fun c_41 => ?_)
              · skip
                refine v_iinc X dL_law_1459 1462 rfl 15 rfl (by decide) (L' := [(14, .int (zI ((u : Int) + 1))), (15, .int (zI (i : Int))), (8, .int (zI (sumZ (fun j => co 11 j) u + co 11 (u : Int)))), (10, .int (zI (sumZ (fun k => bz (gpS co (Int.toNat k) 8 &&& (2 ^ Int.toNat k - 1) = 0)) u + bz (gpS co (Int.toNat (u : Int)) 8 &&& (2 ^ Int.toNat (u : Int) - 1) = 0)))), (0, .ref (E 107 0)), (1, .ref x), (2, .int (zI t)), (3, .int (zI (co 0 0))), (4, .int (zI (co 0 1))), (5, .int (zI a5)), (6, .int (zI a6)), (7, .int (zI a7)), (9, .int (zI a9)), (11, .ref y), (12, .ref (y + 1)), (13, .ref (y + 2))]) rfl ?_
                refine v_goto X dL_law_1462 1171 (by decide) ?_
                refine v_locals [4, 5, 6, 7, 8, 9, 10, 11, 2, 12, 3, 13, 14, 15, 0] (L' := [(0, .ref (E 107 0)), (1, .ref x), (2, .int (zI t)), (3, .int (zI (co 0 0))), (4, .int (zI (co 0 1))), (5, .int (zI a5)), (6, .int (zI a6)), (7, .int (zI a7)), (8, .int (zI (sumZ (fun j => co 11 j) u + co 11 (u : Int)))), (9, .int (zI a9)), (10, .int (zI (sumZ (fun k => bz (gpS co (Int.toNat k) 8 &&& (2 ^ Int.toNat k - 1) = 0)) u + bz (gpS co (Int.toNat (u : Int)) 8 &&& (2 ^ Int.toNat (u : Int) - 1) = 0)))), (11, .ref y), (12, .ref (y + 1)), (13, .ref (y + 2)), (14, .int (zI ((u : Int) + 1)))]) rfl ?_
                have hb_42 := hO.b0
                exact V_L (L' := [(0, .ref (E 107 0)), (1, .ref x), (2, .int (zI t)), (3, .int (zI (co 0 0))), (4, .int (zI (co 0 1))), (5, .int (zI a5)), (6, .int (zI a6)), (7, .int (zI a7)), (8, .int (zI (sumZ (fun j => co 11 j) (u + 1)))), (9, .int (zI a9)), (10, .int (zI (sumZ (fun k => bz (gpS co (Int.toNat k) 8 &&& (2 ^ Int.toNat k - 1) = 0)) (u + 1)))), (11, .ref y), (12, .ref (y + 1)), (13, .ref (y + 2)), (14, .int (zI ((u + 1 : Nat) : Int)))]) (LC rfl (LC rfl (LC rfl (LC rfl (LC rfl (LC rfl (LC rfl (LC rfl (LC (vz (by rfl)) (LC rfl (LC (vz (by rfl)) (LC rfl (LC rfl (LC rfl (LC (vz (by omega)) rfl))))))))))))))) (ih_u (by omega) _ _ (by omega) (by omega) v1_11 (wtT co (u : Int)) (by omega) _ _ hM h_cm h_co h_hw h_w h_sn h_mt h_sq)
              · skip
                have hgc : (((mF (u : Int) >>> Int.toNat (i : Int)) &&& 1 : Nat) : Int) = 1 ↔ rtF (co 13) 8 (u : Int) = rtF (co 13) 8 (i : Int) := by rw [hmu]; exact gp_c (gp_inv hD) (by omega) (by omega) (by omega) (by omega)
                have hae := agL_e hO hD.inv.ts (w := (u : Int)) (y := (i : Int)) (by omega) (by omega) (by omega) (by omega)
                have hab := sumZ_b (n := (co 0 0).toNat) (fun j _ _ => agL_b co (u : Int) (i : Int) j)
                refine v_iconst X dL_law_1322 1323 rfl ?_
                refine v_istore X dL_law_1323 1325 rfl (by decide) (L' := [(16, .int (zI 0)), (15, .int (zI (i : Int))), (8, .int (zI (sumZ (fun j => co 11 j) u + co 11 (u : Int)))), (10, .int (zI (sumZ (fun k => bz (gpS co (Int.toNat k) 8 &&& (2 ^ Int.toNat k - 1) = 0)) u + bz (gpS co (Int.toNat (u : Int)) 8 &&& (2 ^ Int.toNat (u : Int) - 1) = 0)))), (0, .ref (E 107 0)), (1, .ref x), (2, .int (zI t)), (3, .int (zI (co 0 0))), (4, .int (zI (co 0 1))), (5, .int (zI a5)), (6, .int (zI a6)), (7, .int (zI a7)), (9, .int (zI a9)), (11, .ref y), (12, .ref (y + 1)), (13, .ref (y + 2)), (14, .int (zI (u : Int)))]) rfl ?_
                refine v_iconst X dL_law_1325 1326 rfl ?_
                refine v_istore X dL_law_1326 1328 rfl (by decide) (L' := [(17, .int (zI 0)), (16, .int (zI 0)), (15, .int (zI (i : Int))), (8, .int (zI (sumZ (fun j => co 11 j) u + co 11 (u : Int)))), (10, .int (zI (sumZ (fun k => bz (gpS co (Int.toNat k) 8 &&& (2 ^ Int.toNat k - 1) = 0)) u + bz (gpS co (Int.toNat (u : Int)) 8 &&& (2 ^ Int.toNat (u : Int) - 1) = 0)))), (0, .ref (E 107 0)), (1, .ref x), (2, .int (zI t)), (3, .int (zI (co 0 0))), (4, .int (zI (co 0 1))), (5, .int (zI a5)), (6, .int (zI a6)), (7, .int (zI a7)), (9, .int (zI a9)), (11, .ref y), (12, .ref (y + 1)), (13, .ref (y + 2)), (14, .int (zI (u : Int)))]) rfl ?_
                refine v_locals [1, 0, 2, 3, 4, 5, 6, 7, 8, 9, 10, 11, 12, 13, 14, 15, 16, 17] (L' := [(16, .int (zI 0)), (17, .int (zI 0)), (15, .int (zI (i : Int))), (8, .int (zI (sumZ (fun j => co 11 j) u + co 11 (u : Int)))), (10, .int (zI (sumZ (fun k => bz (gpS co (Int.toNat k) 8 &&& (2 ^ Int.toNat k - 1) = 0)) u + bz (gpS co (Int.toNat (u : Int)) 8 &&& (2 ^ Int.toNat (u : Int) - 1) = 0)))), (0, .ref (E 107 0)), (1, .ref x), (2, .int (zI t)), (3, .int (zI (co 0 0))), (4, .int (zI (co 0 1))), (5, .int (zI a5)), (6, .int (zI a6)), (7, .int (zI a7)), (9, .int (zI a9)), (11, .ref y), (12, .ref (y + 1)), (13, .ref (y + 2)), (14, .int (zI (u : Int)))]) rfl ?_
                refine V_L (L' := [(16, .int (zI (sumZ (agL co (u : Int) (i : Int)) 0))), (17, .int (zI 0)), (15, .int (zI (i : Int))), (8, .int (zI (sumZ (fun j => co 11 j) u + co 11 (u : Int)))), (10, .int (zI (sumZ (fun k => bz (gpS co (Int.toNat k) 8 &&& (2 ^ Int.toNat k - 1) = 0)) u + bz (gpS co (Int.toNat (u : Int)) 8 &&& (2 ^ Int.toNat (u : Int) - 1) = 0)))), (0, .ref (E 107 0)), (1, .ref x), (2, .int (zI t)), (3, .int (zI (co 0 0))), (4, .int (zI (co 0 1))), (5, .int (zI a5)), (6, .int (zI a6)), (7, .int (zI a7)), (9, .int (zI a9)), (11, .ref y), (12, .ref (y + 1)), (13, .ref (y + 2)), (14, .int (zI (u : Int)))]) (LC (vz (by rfl)) (LC rfl (LC rfl (LC rfl (LC rfl (LC rfl (LC rfl (LC rfl (LC rfl (LC rfl (LC rfl (LC rfl (LC rfl (LC rfl (LC rfl (LC rfl (LC rfl (LC rfl rfl)))))))))))))))))) ?_
                refine up_loop ((co 0 0).toNat) (P := fun (j : Nat) => ∀ (H : Heap) (lo : List Loc), MS E [] s H lo → PR E x [(x, .inr (11, [.ref (x + 1), .ref (x + 29), .ref (x + 57), .ref (x + 85), .ref (x + 311), .ref (x + 314), .ref (x + 319), .ref (x + 332), .int (zI 0), .int (zI (-1)), .int (zI (-1)), .int (zI 0)]))] H → PR E (x + 1) (courtW E (x + 1) co) H → HW E x H → RW E x v1_11 (wtT co (u : Int)) H → PR E y [(y, .inl (E 102 0, 6, .inl (zA sF)))] H → PR E (y + 1) [(y + 1, .inl (E 102 0, 8, .inl (zA (nZ mF))))] H → PR E (y + 2) [(y + 2, .inl (E 102 0, 8, .inl (zA qF)))] H → V p l e room_1 s m args below meth cd Q 32 H lo (kq_u1171 + 12) (nq_u1171 + 654) 1328 [(16, .int (zI (sumZ (agL co (u : Int) (i : Int)) j))), (17, .int (zI (j : Int))), (15, .int (zI (i : Int))), (8, .int (zI (sumZ (fun j => co 11 j) u + co 11 (u : Int)))), (10, .int (zI (sumZ (fun k => bz (gpS co (Int.toNat k) 8 &&& (2 ^ Int.toNat k - 1) = 0)) u + bz (gpS co (Int.toNat (u : Int)) 8 &&& (2 ^ Int.toNat (u : Int) - 1) = 0)))), (0, .ref (E 107 0)), (1, .ref x), (2, .int (zI t)), (3, .int (zI (co 0 0))), (4, .int (zI (co 0 1))), (5, .int (zI a5)), (6, .int (zI a6)), (7, .int (zI a7)), (9, .int (zI a9)), (11, .ref y), (12, .ref (y + 1)), (13, .ref (y + 2)), (14, .int (zI (u : Int)))] []) (fun j hi_j ih_j H43 lo43 hM h_cm h_co h_hw h_w h_sn h_mt h_sq => ?_) _ _ hM h_cm h_co h_hw h_w h_sn h_mt h_sq
                refine v_iload X dL_law_1328 1330 rfl 1 rfl ?_
                refine v_iload_n X dL_law_1330 1331 rfl 8 rfl ?_
                have hb_45 := hO.b0
                refine v_icmp_ge X (by omega) (by omega) dL_law_1331 1334 1391 rfl (by decide) (fun c_44 => ?_) (fun c_44 => ?_)
                · skip
                  refine V_L (L' := [(16, .int (zI (sumZ (agL co (u : Int) (i : Int)) (co 0 0).toNat))), (17, .int (zI (j : Int))), (15, .int (zI (i : Int))), (8, .int (zI (sumZ (fun j => co 11 j) u + co 11 (u : Int)))), (10, .int (zI (sumZ (fun k => bz (gpS co (Int.toNat k) 8 &&& (2 ^ Int.toNat k - 1) = 0)) u + bz (gpS co (Int.toNat (u : Int)) 8 &&& (2 ^ Int.toNat (u : Int) - 1) = 0)))), (0, .ref (E 107 0)), (1, .ref x), (2, .int (zI t)), (3, .int (zI (co 0 0))), (4, .int (zI (co 0 1))), (5, .int (zI a5)), (6, .int (zI a6)), (7, .int (zI a7)), (9, .int (zI a9)), (11, .ref y), (12, .ref (y + 1)), (13, .ref (y + 2)), (14, .int (zI (u : Int)))]) (LC (vz (by rw [show j = (co 0 0).toNat by omega])) (LC rfl (LC rfl (LC rfl (LC rfl (LC rfl (LC rfl (LC rfl (LC rfl (LC rfl (LC rfl (LC rfl (LC rfl (LC rfl (LC rfl (LC rfl (LC rfl (LC rfl rfl)))))))))))))))))) ?_
                  suffices hJ1391 : ∀ z9 : Int, z9 = (bz (rtF (co 13) 8 (u : Int) = rtF (co 13) 8 (i : Int))) → V p l e room_1 s m args below meth cd Q 32 H43 lo43 (kq_u1171 + 12) (nq_u1171 + 654) 1410 [(16, .int (zI (sumZ (agL co (u : Int) (i : Int)) (co 0 0).toNat))), (17, .int (zI (j : Int))), (15, .int (zI (i : Int))), (8, .int (zI (sumZ (fun j => co 11 j) u + co 11 (u : Int)))), (10, .int (zI (sumZ (fun k => bz (gpS co (Int.toNat k) 8 &&& (2 ^ Int.toNat k - 1) = 0)) u + bz (gpS co (Int.toNat (u : Int)) 8 &&& (2 ^ Int.toNat (u : Int) - 1) = 0)))), (0, .ref (E 107 0)), (1, .ref x), (2, .int (zI t)), (3, .int (zI (co 0 0))), (4, .int (zI (co 0 1))), (5, .int (zI a5)), (6, .int (zI a6)), (7, .int (zI a7)), (9, .int (zI a9)), (11, .ref y), (12, .ref (y + 1)), (13, .ref (y + 2)), (14, .int (zI (u : Int)))] [.int (zI z9)] by
                    refine v_aload X dL_law_1391 1393 rfl 15 rfl ?_
                    refine v_iload X dL_law_1393 1395 rfl 17 rfl ?_
                    refine v_iald X hM.C h_mt.1 0 rfl (by omega) (by omega) (by omega) dL_law_1395 1396 rfl ?_
                    show V p l e room_1 s m args below meth cd Q 32 H43 lo43 (kq_u1171 + 12) (nq_u1171 + 654) 1396 [(16, .int (zI (sumZ (agL co (u : Int) (i : Int)) (co 0 0).toNat))), (17, .int (zI (j : Int))), (15, .int (zI (i : Int))), (8, .int (zI (sumZ (fun j => co 11 j) u + co 11 (u : Int)))), (10, .int (zI (sumZ (fun k => bz (gpS co (Int.toNat k) 8 &&& (2 ^ Int.toNat k - 1) = 0)) u + bz (gpS co (Int.toNat (u : Int)) 8 &&& (2 ^ Int.toNat (u : Int) - 1) = 0)))), (0, .ref (E 107 0)), (1, .ref x), (2, .int (zI t)), (3, .int (zI (co 0 0))), (4, .int (zI (co 0 1))), (5, .int (zI a5)), (6, .int (zI a6)), (7, .int (zI a7)), (9, .int (zI a9)), (11, .ref y), (12, .ref (y + 1)), (13, .ref (y + 2)), (14, .int (zI (u : Int)))] [.int (zI ((mF (u : Int) : Nat) : Int))]
                    refine v_iload X dL_law_1396 1398 rfl 2 rfl ?_
                    refine v_ishr8 (a := mF (u : Int)) X (hmf _) (by omega) (by omega) dL_law_1398 1399 rfl ?_
                    refine v_iconst X dL_law_1399 1400 rfl ?_
                    refine v_iand8 (a := (mF (u : Int)) >>> Int.toNat (i : Int)) (b := 1) X (shr_lt (hmf _)) (by decide) dL_law_1400 1401 rfl ?_
                    have hand_46 : (((mF (u : Int)) >>> Int.toNat (i : Int)) &&& 1) ≤ 1 := Nat.and_le_right
                    refine v_iconst X dL_law_1401 1402 rfl ?_
                    refine v_icmp_ne X (by omega) (by omega) dL_law_1402 1405 1409 rfl (by decide) (fun c_47 => ?_) (fun c_47 => ?_)
                    · skip
                      refine v_iconst X dL_law_1409 1410 rfl ?_
                      exact hJ1391 _ (by exact (bz_f (fun q9 => c_47 (hgc.mpr q9))).symm)
                    · skip
                      refine v_iconst X dL_law_1405 1406 rfl ?_
                      refine v_goto X dL_law_1406 1410 (by decide) ?_
                      exact hJ1391 _ (by exact (bz_t (hgc.mp c_47)).symm)
                  intro z9 hz9
                  subst hz9
                  refine v_istore X dL_law_1410 1412 rfl (by decide) (L' := [(17, .int (zI (bz ((rtF (co 13) 8 (u : Int) = rtF (co 13) 8 (i : Int)))))), (16, .int (zI (sumZ (agL co (u : Int) (i : Int)) (co 0 0).toNat))), (15, .int (zI (i : Int))), (8, .int (zI (sumZ (fun j => co 11 j) u + co 11 (u : Int)))), (10, .int (zI (sumZ (fun k => bz (gpS co (Int.toNat k) 8 &&& (2 ^ Int.toNat k - 1) = 0)) u + bz (gpS co (Int.toNat (u : Int)) 8 &&& (2 ^ Int.toNat (u : Int) - 1) = 0)))), (0, .ref (E 107 0)), (1, .ref x), (2, .int (zI t)), (3, .int (zI (co 0 0))), (4, .int (zI (co 0 1))), (5, .int (zI a5)), (6, .int (zI a6)), (7, .int (zI a7)), (9, .int (zI a9)), (11, .ref y), (12, .ref (y + 1)), (13, .ref (y + 2)), (14, .int (zI (u : Int)))]) rfl ?_
                  refine v_aload_n X dL_law_1412 1413 rfl 6 rfl ?_
                  refine v_iload X dL_law_1413 1415 rfl 17 rfl ?_
                  refine v_iload X dL_law_1415 1417 rfl 2 rfl ?_
                  refine v_rdV X hM.C (PW.app h_cm.1 h_co.1) (c_X9_agreement l E x co 0 (-1) (-1) 0 (u : Int) (i : Int) hO (by omega) (by omega) (by omega) (by omega)) kvX9_agreement kiX9_agreement kl_L_257 rfl rfl (As := [.int (zI (u : Int)), .int (zI (i : Int))]) rfl rfl (rm_law0 rfl (by omega) (by omega)) dL_law_1417 1420 rfl ?_
                  show V p l e room_1 s m args below meth cd Q 32 H43 lo43 (kq_u1171 + 12) (nq_u1171 + 654) 1420 [(17, .int (zI (bz ((rtF (co 13) 8 (u : Int) = rtF (co 13) 8 (i : Int)))))), (16, .int (zI (sumZ (agL co (u : Int) (i : Int)) (co 0 0).toNat))), (15, .int (zI (i : Int))), (8, .int (zI (sumZ (fun j => co 11 j) u + co 11 (u : Int)))), (10, .int (zI (sumZ (fun k => bz (gpS co (Int.toNat k) 8 &&& (2 ^ Int.toNat k - 1) = 0)) u + bz (gpS co (Int.toNat (u : Int)) 8 &&& (2 ^ Int.toNat (u : Int) - 1) = 0)))), (0, .ref (E 107 0)), (1, .ref x), (2, .int (zI t)), (3, .int (zI (co 0 0))), (4, .int (zI (co 0 1))), (5, .int (zI a5)), (6, .int (zI a6)), (7, .int (zI a7)), (9, .int (zI a9)), (11, .ref y), (12, .ref (y + 1)), (13, .ref (y + 2)), (14, .int (zI (u : Int)))] [.int (zI (sumZ (fun j => co 8 (j * 8 + (u : Int)) * co 8 (j * 8 + (i : Int))) (co 0 0).toNat))]
                  refine v_iload X dL_law_1420 1422 rfl 1 rfl ?_
                  refine v_icmp_ne X (by omega) (by omega) dL_law_1422 1425 1451 rfl (by decide) (fun c_48 => ?_) (fun c_48 => ?_)
                  · skip
                    exfalso; exact c_48 hae
                  · skip
                    refine v_aload_n X dL_law_1425 1426 rfl 6 rfl ?_
                    refine v_iload X dL_law_1426 1428 rfl 17 rfl ?_
                    refine v_iload X dL_law_1428 1430 rfl 2 rfl ?_
                    refine v_rdV X hM.C (PW.app h_cm.1 h_co.1) (c_X9_areConnected l E x co 0 (-1) (-1) 0 (u : Int) (i : Int) hO (by omega) (by omega) (by omega) (by omega)) kvX9_areConnected kiX9_areConnected kl_L_260 rfl rfl (As := [.int (zI (u : Int)), .int (zI (i : Int))]) rfl rfl (rm_law0 rfl (by omega) (by omega)) dL_law_1430 1433 rfl ?_
                    show V p l e room_1 s m args below meth cd Q 32 H43 lo43 (kq_u1171 + 12) (nq_u1171 + 654) 1433 [(17, .int (zI (bz ((rtF (co 13) 8 (u : Int) = rtF (co 13) 8 (i : Int)))))), (16, .int (zI (sumZ (agL co (u : Int) (i : Int)) (co 0 0).toNat))), (15, .int (zI (i : Int))), (8, .int (zI (sumZ (fun j => co 11 j) u + co 11 (u : Int)))), (10, .int (zI (sumZ (fun k => bz (gpS co (Int.toNat k) 8 &&& (2 ^ Int.toNat k - 1) = 0)) u + bz (gpS co (Int.toNat (u : Int)) 8 &&& (2 ^ Int.toNat (u : Int) - 1) = 0)))), (0, .ref (E 107 0)), (1, .ref x), (2, .int (zI t)), (3, .int (zI (co 0 0))), (4, .int (zI (co 0 1))), (5, .int (zI a5)), (6, .int (zI a6)), (7, .int (zI a7)), (9, .int (zI a9)), (11, .ref y), (12, .ref (y + 1)), (13, .ref (y + 2)), (14, .int (zI (u : Int)))] [.int (zI (bz (rtF (co 13) 8 (u : Int) = rtF (co 13) 8 (i : Int))))]
                    refine v_iload X dL_law_1433 1435 rfl 0 rfl ?_
                    refine v_icmp_ne X (by have := bz_rg (φ := rtF (co 13) 8 (u : Int) = rtF (co 13) 8 (i : Int)); omega) (by have := bz_rg (φ := (rtF (co 13) 8 (u : Int) = rtF (co 13) 8 (i : Int))); omega) dL_law_1435 1438 1451 rfl (by decide) (fun c_49 => ?_) (fun c_49 => ?_)
                    · skip
                      exfalso; exact c_49 rfl
                    · skip
                      refine v_aload_n X dL_law_1438 1439 rfl 6 rfl ?_
                      refine v_iload X dL_law_1439 1441 rfl 17 rfl ?_
                      refine v_iload X dL_law_1441 1443 rfl 2 rfl ?_
                      refine v_muV X hM (h_cm.1) (p_abs l E x co (u : Int) (i : Int) v1_11 (wtT co (u : Int)) hD (by omega) (by omega) (by omega) (by omega)) kvX9_areConnectedBySearch kiX9_areConnectedBySearch kl_L_263 (q0 := 0) rfl rfl (As := [.int (zI (u : Int)), .int (zI (i : Int))]) rfl rfl (rm_law rfl (by omega) (by omega)) dL_law_1443 1446 rfl (k' := kq_u1171 + 12) (n' := nq_u1171 + 654) rfl rfl (by intro q hq; simp only [Fr, Fs, or_false, false_or] at hq ⊢; omega) ⟨h_cm, h_co, h_w⟩ (fun rv H50 lo50 hM hF hpo => ?_)
                      obtain ⟨rfl, hw_0⟩ := hpo
                      have h_w : RW E x v1_11 (wtT co (u : Int)) H50 := hw_0
                      clear hw_0
                      replace h_cm := h_cm.kept hF 1 rfl (by intro q q1 q2 q3; simp only [Fs, or_false] at q3; omega)
                      replace h_co := h_co.kept hF 28 rfl (by intro q q1 q2 q3; simp only [Fs, or_false] at q3; omega)
                      replace h_hw := h_hw.kept hF (by intro q q1 q2 q3; simp only [Fs, or_false] at q3; omega)
                      replace h_sn := h_sn.kept hF 1 rfl (by intro q q1 q2 q3; simp only [Fs, or_false] at q3; omega)
                      replace h_mt := h_mt.kept hF 1 rfl (by intro q q1 q2 q3; simp only [Fs, or_false] at q3; omega)
                      replace h_sq := h_sq.kept hF 1 rfl (by intro q q1 q2 q3; simp only [Fs, or_false] at q3; omega)
                      show V p l e room_1 s m args below meth cd Q 32 H50 lo50 (kq_u1171 + 12) (nq_u1171 + 654) 1446 [(17, .int (zI (bz ((rtF (co 13) 8 (u : Int) = rtF (co 13) 8 (i : Int)))))), (16, .int (zI (sumZ (agL co (u : Int) (i : Int)) (co 0 0).toNat))), (15, .int (zI (i : Int))), (8, .int (zI (sumZ (fun j => co 11 j) u + co 11 (u : Int)))), (10, .int (zI (sumZ (fun k => bz (gpS co (Int.toNat k) 8 &&& (2 ^ Int.toNat k - 1) = 0)) u + bz (gpS co (Int.toNat (u : Int)) 8 &&& (2 ^ Int.toNat (u : Int) - 1) = 0)))), (0, .ref (E 107 0)), (1, .ref x), (2, .int (zI t)), (3, .int (zI (co 0 0))), (4, .int (zI (co 0 1))), (5, .int (zI a5)), (6, .int (zI a6)), (7, .int (zI a7)), (9, .int (zI a9)), (11, .ref y), (12, .ref (y + 1)), (13, .ref (y + 2)), (14, .int (zI (u : Int)))] [.int (zI (bz (rtF (co 13) 8 (u : Int) = rtF (co 13) 8 (i : Int))))]
                      refine v_iload X dL_law_1446 1448 rfl 0 rfl ?_
                      refine v_icmp_eq X (by have := bz_rg (φ := rtF (co 13) 8 (u : Int) = rtF (co 13) 8 (i : Int)); omega) (by have := bz_rg (φ := (rtF (co 13) 8 (u : Int) = rtF (co 13) 8 (i : Int))); omega) dL_law_1448 1451 1453 rfl (by decide) (fun c_51 => ?_) (fun c_51 => ?_)
                      · skip
                        refine v_iinc X dL_law_1453 1456 rfl 2 rfl (by decide) (L' := [(15, .int (zI ((i : Int) + 1))), (17, .int (zI (bz ((rtF (co 13) 8 (u : Int) = rtF (co 13) 8 (i : Int)))))), (16, .int (zI (sumZ (agL co (u : Int) (i : Int)) (co 0 0).toNat))), (8, .int (zI (sumZ (fun j => co 11 j) u + co 11 (u : Int)))), (10, .int (zI (sumZ (fun k => bz (gpS co (Int.toNat k) 8 &&& (2 ^ Int.toNat k - 1) = 0)) u + bz (gpS co (Int.toNat (u : Int)) 8 &&& (2 ^ Int.toNat (u : Int) - 1) = 0)))), (0, .ref (E 107 0)), (1, .ref x), (2, .int (zI t)), (3, .int (zI (co 0 0))), (4, .int (zI (co 0 1))), (5, .int (zI a5)), (6, .int (zI a6)), (7, .int (zI a7)), (9, .int (zI a9)), (11, .ref y), (12, .ref (y + 1)), (13, .ref (y + 2)), (14, .int (zI (u : Int)))]) rfl ?_
                        refine v_goto X dL_law_1456 1315 (by decide) ?_
                        refine v_locals [0, 3, 4, 5, 6, 7, 8, 9, 10, 11, 12, 13, 14, 15, 16, 17] (L' := [(15, .int (zI ((i : Int) + 1))), (8, .int (zI (sumZ (fun j => co 11 j) u + co 11 (u : Int)))), (10, .int (zI (sumZ (fun k => bz (gpS co (Int.toNat k) 8 &&& (2 ^ Int.toNat k - 1) = 0)) u + bz (gpS co (Int.toNat (u : Int)) 8 &&& (2 ^ Int.toNat (u : Int) - 1) = 0)))), (0, .ref (E 107 0)), (1, .ref x), (2, .int (zI t)), (3, .int (zI (co 0 0))), (4, .int (zI (co 0 1))), (5, .int (zI a5)), (6, .int (zI a6)), (7, .int (zI a7)), (9, .int (zI a9)), (11, .ref y), (12, .ref (y + 1)), (13, .ref (y + 2)), (14, .int (zI (u : Int)))]) rfl ?_
                        exact V_L (L' := [(15, .int (zI ((i + 1 : Nat) : Int))), (8, .int (zI (sumZ (fun j => co 11 j) u + co 11 (u : Int)))), (10, .int (zI (sumZ (fun k => bz (gpS co (Int.toNat k) 8 &&& (2 ^ Int.toNat k - 1) = 0)) u + bz (gpS co (Int.toNat (u : Int)) 8 &&& (2 ^ Int.toNat (u : Int) - 1) = 0)))), (0, .ref (E 107 0)), (1, .ref x), (2, .int (zI t)), (3, .int (zI (co 0 0))), (4, .int (zI (co 0 1))), (5, .int (zI a5)), (6, .int (zI a6)), (7, .int (zI a7)), (9, .int (zI a9)), (11, .ref y), (12, .ref (y + 1)), (13, .ref (y + 2)), (14, .int (zI (u : Int)))]) (LC (vz (by omega)) (LC rfl (LC rfl (LC rfl (LC rfl (LC rfl (LC rfl (LC rfl (LC rfl (LC rfl (LC rfl (LC rfl (LC rfl (LC rfl (LC rfl (LC rfl rfl)))))))))))))))) (ih_i (by omega) _ _ hM h_cm h_co h_hw h_w h_sn h_mt h_sq)
                      · skip
                        exfalso; exact c_51 rfl
                · skip
                  refine v_aload_n X dL_law_1334 1335 rfl 6 rfl ?_
                  refine v_iload X dL_law_1335 1337 rfl 1 rfl ?_
                  refine v_iload X dL_law_1337 1339 rfl 17 rfl ?_
                  refine v_rdV X hM.C (PW.app h_cm.1 h_co.1) (c_X9_hasTestified l E x co 0 (-1) (-1) 0 (j : Int) (u : Int) hO (by omega) (by omega) (by omega) (by omega)) kvX9_hasTestified kiX9_hasTestified kl_L_209 rfl rfl (As := [.int (zI (j : Int)), .int (zI (u : Int))]) rfl rfl (rm_law0 rfl (by omega) (by omega)) dL_law_1339 1342 rfl ?_
                  show V p l e room_1 s m args below meth cd Q 32 H43 lo43 (kq_u1171 + 12) (nq_u1171 + 654) 1342 [(16, .int (zI (sumZ (agL co (u : Int) (i : Int)) j))), (17, .int (zI (j : Int))), (15, .int (zI (i : Int))), (8, .int (zI (sumZ (fun j => co 11 j) u + co 11 (u : Int)))), (10, .int (zI (sumZ (fun k => bz (gpS co (Int.toNat k) 8 &&& (2 ^ Int.toNat k - 1) = 0)) u + bz (gpS co (Int.toNat (u : Int)) 8 &&& (2 ^ Int.toNat (u : Int) - 1) = 0)))), (0, .ref (E 107 0)), (1, .ref x), (2, .int (zI t)), (3, .int (zI (co 0 0))), (4, .int (zI (co 0 1))), (5, .int (zI a5)), (6, .int (zI a6)), (7, .int (zI a7)), (9, .int (zI a9)), (11, .ref y), (12, .ref (y + 1)), (13, .ref (y + 2)), (14, .int (zI (u : Int)))] [.int (zI (bz (0 < co 9 ((j : Int) * 8 + (u : Int)))))]
                  refine v_bif_eq X dL_law_1342 1345 1385 rfl (by decide) (fun c_52 => ?_) (fun c_52 => ?_)
                  · skip
                    refine v_iinc X dL_law_1385 1388 rfl 1 rfl (by decide) (L' := [(17, .int (zI ((j : Int) + 1))), (16, .int (zI (sumZ (agL co (u : Int) (i : Int)) j))), (15, .int (zI (i : Int))), (8, .int (zI (sumZ (fun j => co 11 j) u + co 11 (u : Int)))), (10, .int (zI (sumZ (fun k => bz (gpS co (Int.toNat k) 8 &&& (2 ^ Int.toNat k - 1) = 0)) u + bz (gpS co (Int.toNat (u : Int)) 8 &&& (2 ^ Int.toNat (u : Int) - 1) = 0)))), (0, .ref (E 107 0)), (1, .ref x), (2, .int (zI t)), (3, .int (zI (co 0 0))), (4, .int (zI (co 0 1))), (5, .int (zI a5)), (6, .int (zI a6)), (7, .int (zI a7)), (9, .int (zI a9)), (11, .ref y), (12, .ref (y + 1)), (13, .ref (y + 2)), (14, .int (zI (u : Int)))]) rfl ?_
                    refine v_goto X dL_law_1388 1328 (by decide) ?_
                    refine v_locals [1, 0, 2, 3, 4, 5, 6, 7, 8, 9, 10, 11, 12, 13, 14, 15, 16, 17] (L' := [(16, .int (zI (sumZ (agL co (u : Int) (i : Int)) j))), (17, .int (zI ((j : Int) + 1))), (15, .int (zI (i : Int))), (8, .int (zI (sumZ (fun j => co 11 j) u + co 11 (u : Int)))), (10, .int (zI (sumZ (fun k => bz (gpS co (Int.toNat k) 8 &&& (2 ^ Int.toNat k - 1) = 0)) u + bz (gpS co (Int.toNat (u : Int)) 8 &&& (2 ^ Int.toNat (u : Int) - 1) = 0)))), (0, .ref (E 107 0)), (1, .ref x), (2, .int (zI t)), (3, .int (zI (co 0 0))), (4, .int (zI (co 0 1))), (5, .int (zI a5)), (6, .int (zI a6)), (7, .int (zI a7)), (9, .int (zI a9)), (11, .ref y), (12, .ref (y + 1)), (13, .ref (y + 2)), (14, .int (zI (u : Int)))]) rfl ?_
                    exact V_L (L' := [(16, .int (zI (sumZ (agL co (u : Int) (i : Int)) (j + 1)))), (17, .int (zI ((j + 1 : Nat) : Int))), (15, .int (zI (i : Int))), (8, .int (zI (sumZ (fun j => co 11 j) u + co 11 (u : Int)))), (10, .int (zI (sumZ (fun k => bz (gpS co (Int.toNat k) 8 &&& (2 ^ Int.toNat k - 1) = 0)) u + bz (gpS co (Int.toNat (u : Int)) 8 &&& (2 ^ Int.toNat (u : Int) - 1) = 0)))), (0, .ref (E 107 0)), (1, .ref x), (2, .int (zI t)), (3, .int (zI (co 0 0))), (4, .int (zI (co 0 1))), (5, .int (zI a5)), (6, .int (zI a6)), (7, .int (zI a7)), (9, .int (zI a9)), (11, .ref y), (12, .ref (y + 1)), (13, .ref (y + 2)), (14, .int (zI (u : Int)))]) (LC (vz (by rw [sumZ_s]; first | rw [agL_1 (by assumption) (by assumption) (by assumption)] | (rw [agL_2 (by assumption) (by assumption) (by assumption)]) | (rw [agL_3 (by assumption)]; omega) | (rw [agL_4 (by assumption)]; omega))) (LC (vz (by omega)) (LC rfl (LC rfl (LC rfl (LC rfl (LC rfl (LC rfl (LC rfl (LC rfl (LC rfl (LC rfl (LC rfl (LC rfl (LC rfl (LC rfl (LC rfl (LC rfl rfl)))))))))))))))))) (ih_j (by omega) _ _ hM h_cm h_co h_hw h_w h_sn h_mt h_sq)
                  · skip
                    refine v_aload_n X dL_law_1345 1346 rfl 6 rfl ?_
                    refine v_iload X dL_law_1346 1348 rfl 1 rfl ?_
                    refine v_iload X dL_law_1348 1350 rfl 2 rfl ?_
                    refine v_rdV X hM.C (PW.app h_cm.1 h_co.1) (c_X9_hasTestified l E x co 0 (-1) (-1) 0 (j : Int) (i : Int) hO (by omega) (by omega) (by omega) (by omega)) kvX9_hasTestified kiX9_hasTestified kl_L_209 rfl rfl (As := [.int (zI (j : Int)), .int (zI (i : Int))]) rfl rfl (rm_law0 rfl (by omega) (by omega)) dL_law_1350 1353 rfl ?_
                    show V p l e room_1 s m args below meth cd Q 32 H43 lo43 (kq_u1171 + 12) (nq_u1171 + 654) 1353 [(16, .int (zI (sumZ (agL co (u : Int) (i : Int)) j))), (17, .int (zI (j : Int))), (15, .int (zI (i : Int))), (8, .int (zI (sumZ (fun j => co 11 j) u + co 11 (u : Int)))), (10, .int (zI (sumZ (fun k => bz (gpS co (Int.toNat k) 8 &&& (2 ^ Int.toNat k - 1) = 0)) u + bz (gpS co (Int.toNat (u : Int)) 8 &&& (2 ^ Int.toNat (u : Int) - 1) = 0)))), (0, .ref (E 107 0)), (1, .ref x), (2, .int (zI t)), (3, .int (zI (co 0 0))), (4, .int (zI (co 0 1))), (5, .int (zI a5)), (6, .int (zI a6)), (7, .int (zI a7)), (9, .int (zI a9)), (11, .ref y), (12, .ref (y + 1)), (13, .ref (y + 2)), (14, .int (zI (u : Int)))] [.int (zI (bz (0 < co 9 ((j : Int) * 8 + (i : Int)))))]
                    refine v_bif_eq X dL_law_1353 1356 1385 rfl (by decide) (fun c_53 => ?_) (fun c_53 => ?_)
                    · skip
                      refine v_iinc X dL_law_1385 1388 rfl 1 rfl (by decide) (L' := [(17, .int (zI ((j : Int) + 1))), (16, .int (zI (sumZ (agL co (u : Int) (i : Int)) j))), (15, .int (zI (i : Int))), (8, .int (zI (sumZ (fun j => co 11 j) u + co 11 (u : Int)))), (10, .int (zI (sumZ (fun k => bz (gpS co (Int.toNat k) 8 &&& (2 ^ Int.toNat k - 1) = 0)) u + bz (gpS co (Int.toNat (u : Int)) 8 &&& (2 ^ Int.toNat (u : Int) - 1) = 0)))), (0, .ref (E 107 0)), (1, .ref x), (2, .int (zI t)), (3, .int (zI (co 0 0))), (4, .int (zI (co 0 1))), (5, .int (zI a5)), (6, .int (zI a6)), (7, .int (zI a7)), (9, .int (zI a9)), (11, .ref y), (12, .ref (y + 1)), (13, .ref (y + 2)), (14, .int (zI (u : Int)))]) rfl ?_
                      refine v_goto X dL_law_1388 1328 (by decide) ?_
                      refine v_locals [1, 0, 2, 3, 4, 5, 6, 7, 8, 9, 10, 11, 12, 13, 14, 15, 16, 17] (L' := [(16, .int (zI (sumZ (agL co (u : Int) (i : Int)) j))), (17, .int (zI ((j : Int) + 1))), (15, .int (zI (i : Int))), (8, .int (zI (sumZ (fun j => co 11 j) u + co 11 (u : Int)))), (10, .int (zI (sumZ (fun k => bz (gpS co (Int.toNat k) 8 &&& (2 ^ Int.toNat k - 1) = 0)) u + bz (gpS co (Int.toNat (u : Int)) 8 &&& (2 ^ Int.toNat (u : Int) - 1) = 0)))), (0, .ref (E 107 0)), (1, .ref x), (2, .int (zI t)), (3, .int (zI (co 0 0))), (4, .int (zI (co 0 1))), (5, .int (zI a5)), (6, .int (zI a6)), (7, .int (zI a7)), (9, .int (zI a9)), (11, .ref y), (12, .ref (y + 1)), (13, .ref (y + 2)), (14, .int (zI (u : Int)))]) rfl ?_
                      exact V_L (L' := [(16, .int (zI (sumZ (agL co (u : Int) (i : Int)) (j + 1)))), (17, .int (zI ((j + 1 : Nat) : Int))), (15, .int (zI (i : Int))), (8, .int (zI (sumZ (fun j => co 11 j) u + co 11 (u : Int)))), (10, .int (zI (sumZ (fun k => bz (gpS co (Int.toNat k) 8 &&& (2 ^ Int.toNat k - 1) = 0)) u + bz (gpS co (Int.toNat (u : Int)) 8 &&& (2 ^ Int.toNat (u : Int) - 1) = 0)))), (0, .ref (E 107 0)), (1, .ref x), (2, .int (zI t)), (3, .int (zI (co 0 0))), (4, .int (zI (co 0 1))), (5, .int (zI a5)), (6, .int (zI a6)), (7, .int (zI a7)), (9, .int (zI a9)), (11, .ref y), (12, .ref (y + 1)), (13, .ref (y + 2)), (14, .int (zI (u : Int)))]) (LC (vz (by rw [sumZ_s]; first | rw [agL_1 (by assumption) (by assumption) (by assumption)] | (rw [agL_2 (by assumption) (by assumption) (by assumption)]) | (rw [agL_3 (by assumption)]; omega) | (rw [agL_4 (by assumption)]; omega))) (LC (vz (by omega)) (LC rfl (LC rfl (LC rfl (LC rfl (LC rfl (LC rfl (LC rfl (LC rfl (LC rfl (LC rfl (LC rfl (LC rfl (LC rfl (LC rfl (LC rfl (LC rfl rfl)))))))))))))))))) (ih_j (by omega) _ _ hM h_cm h_co h_hw h_w h_sn h_mt h_sq)
                    · skip
                      refine v_iload X dL_law_1356 1358 rfl 0 rfl ?_
                      refine v_aload_n X dL_law_1358 1359 rfl 6 rfl ?_
                      refine v_iload X dL_law_1359 1361 rfl 1 rfl ?_
                      refine v_iload X dL_law_1361 1363 rfl 17 rfl ?_
                      have hb_54 := hO.b9 ((j : Int) * 8 + (u : Int))
                      refine v_rdV X hM.C (PW.app h_cm.1 h_co.1) (c_X9_isForProsecution l E x co 0 (-1) (-1) 0 (j : Int) (u : Int) hO (by omega) (by omega) (by omega) (by omega) (by omega)) kvX9_isForProsecution kiX9_isForProsecution kl_L_112 rfl rfl (As := [.int (zI (j : Int)), .int (zI (u : Int))]) rfl rfl (rm_law0 rfl (by omega) (by omega)) dL_law_1363 1366 rfl ?_
                      show V p l e room_1 s m args below meth cd Q 32 H43 lo43 (kq_u1171 + 12) (nq_u1171 + 654) 1366 [(16, .int (zI (sumZ (agL co (u : Int) (i : Int)) j))), (17, .int (zI (j : Int))), (15, .int (zI (i : Int))), (8, .int (zI (sumZ (fun j => co 11 j) u + co 11 (u : Int)))), (10, .int (zI (sumZ (fun k => bz (gpS co (Int.toNat k) 8 &&& (2 ^ Int.toNat k - 1) = 0)) u + bz (gpS co (Int.toNat (u : Int)) 8 &&& (2 ^ Int.toNat (u : Int) - 1) = 0)))), (0, .ref (E 107 0)), (1, .ref x), (2, .int (zI t)), (3, .int (zI (co 0 0))), (4, .int (zI (co 0 1))), (5, .int (zI a5)), (6, .int (zI a6)), (7, .int (zI a7)), (9, .int (zI a9)), (11, .ref y), (12, .ref (y + 1)), (13, .ref (y + 2)), (14, .int (zI (u : Int)))] [.int (zI (bz (0 < co 8 ((j : Int) * 8 + (u : Int))))), .int (zI (sumZ (agL co (u : Int) (i : Int)) j))]
                      refine v_aload_n X dL_law_1366 1367 rfl 6 rfl ?_
                      refine v_iload X dL_law_1367 1369 rfl 1 rfl ?_
                      refine v_iload X dL_law_1369 1371 rfl 2 rfl ?_
                      have hb_55 := hO.b9 ((j : Int) * 8 + (i : Int))
                      refine v_rdV X hM.C (PW.app h_cm.1 h_co.1) (c_X9_isForProsecution l E x co 0 (-1) (-1) 0 (j : Int) (i : Int) hO (by omega) (by omega) (by omega) (by omega) (by omega)) kvX9_isForProsecution kiX9_isForProsecution kl_L_112 rfl rfl (As := [.int (zI (j : Int)), .int (zI (i : Int))]) rfl rfl (rm_law0 rfl (by omega) (by omega)) dL_law_1371 1374 rfl ?_
                      show V p l e room_1 s m args below meth cd Q 32 H43 lo43 (kq_u1171 + 12) (nq_u1171 + 654) 1374 [(16, .int (zI (sumZ (agL co (u : Int) (i : Int)) j))), (17, .int (zI (j : Int))), (15, .int (zI (i : Int))), (8, .int (zI (sumZ (fun j => co 11 j) u + co 11 (u : Int)))), (10, .int (zI (sumZ (fun k => bz (gpS co (Int.toNat k) 8 &&& (2 ^ Int.toNat k - 1) = 0)) u + bz (gpS co (Int.toNat (u : Int)) 8 &&& (2 ^ Int.toNat (u : Int) - 1) = 0)))), (0, .ref (E 107 0)), (1, .ref x), (2, .int (zI t)), (3, .int (zI (co 0 0))), (4, .int (zI (co 0 1))), (5, .int (zI a5)), (6, .int (zI a6)), (7, .int (zI a7)), (9, .int (zI a9)), (11, .ref y), (12, .ref (y + 1)), (13, .ref (y + 2)), (14, .int (zI (u : Int)))] [.int (zI (bz (0 < co 8 ((j : Int) * 8 + (i : Int))))), .int (zI (bz (0 < co 8 ((j : Int) * 8 + (u : Int))))), .int (zI (sumZ (agL co (u : Int) (i : Int)) j))]
                      have hb_57 := hO.b8 ((j : Int) * 8 + (u : Int))
                      have hb_58 := hO.b8 ((j : Int) * 8 + (i : Int))
                      refine v_icmp_ne X (by have := bz_rg (φ := 0 < co 8 ((j : Int) * 8 + (u : Int))); omega) (by have := bz_rg (φ := 0 < co 8 ((j : Int) * 8 + (i : Int))); omega) dL_law_1374 1377 1381 rfl (by decide) (fun c_56 => ?_) (fun c_56 => ?_)
                      · skip
                        refine v_iconst X dL_law_1381 1382 rfl ?_
                        refine v_iadd X dL_law_1382 1383 rfl ?_
                        refine v_istore X dL_law_1383 1385 rfl (by decide) (L' := [(16, .int (zI (sumZ (agL co (u : Int) (i : Int)) j + (-1)))), (17, .int (zI (j : Int))), (15, .int (zI (i : Int))), (8, .int (zI (sumZ (fun j => co 11 j) u + co 11 (u : Int)))), (10, .int (zI (sumZ (fun k => bz (gpS co (Int.toNat k) 8 &&& (2 ^ Int.toNat k - 1) = 0)) u + bz (gpS co (Int.toNat (u : Int)) 8 &&& (2 ^ Int.toNat (u : Int) - 1) = 0)))), (0, .ref (E 107 0)), (1, .ref x), (2, .int (zI t)), (3, .int (zI (co 0 0))), (4, .int (zI (co 0 1))), (5, .int (zI a5)), (6, .int (zI a6)), (7, .int (zI a7)), (9, .int (zI a9)), (11, .ref y), (12, .ref (y + 1)), (13, .ref (y + 2)), (14, .int (zI (u : Int)))]) rfl ?_
                        refine v_iinc X dL_law_1385 1388 rfl 1 rfl (by decide) (L' := [(17, .int (zI ((j : Int) + 1))), (16, .int (zI (sumZ (agL co (u : Int) (i : Int)) j + (-1)))), (15, .int (zI (i : Int))), (8, .int (zI (sumZ (fun j => co 11 j) u + co 11 (u : Int)))), (10, .int (zI (sumZ (fun k => bz (gpS co (Int.toNat k) 8 &&& (2 ^ Int.toNat k - 1) = 0)) u + bz (gpS co (Int.toNat (u : Int)) 8 &&& (2 ^ Int.toNat (u : Int) - 1) = 0)))), (0, .ref (E 107 0)), (1, .ref x), (2, .int (zI t)), (3, .int (zI (co 0 0))), (4, .int (zI (co 0 1))), (5, .int (zI a5)), (6, .int (zI a6)), (7, .int (zI a7)), (9, .int (zI a9)), (11, .ref y), (12, .ref (y + 1)), (13, .ref (y + 2)), (14, .int (zI (u : Int)))]) rfl ?_
                        refine v_goto X dL_law_1388 1328 (by decide) ?_
                        refine v_locals [1, 0, 2, 3, 4, 5, 6, 7, 8, 9, 10, 11, 12, 13, 14, 15, 16, 17] (L' := [(16, .int (zI (sumZ (agL co (u : Int) (i : Int)) j + (-1)))), (17, .int (zI ((j : Int) + 1))), (15, .int (zI (i : Int))), (8, .int (zI (sumZ (fun j => co 11 j) u + co 11 (u : Int)))), (10, .int (zI (sumZ (fun k => bz (gpS co (Int.toNat k) 8 &&& (2 ^ Int.toNat k - 1) = 0)) u + bz (gpS co (Int.toNat (u : Int)) 8 &&& (2 ^ Int.toNat (u : Int) - 1) = 0)))), (0, .ref (E 107 0)), (1, .ref x), (2, .int (zI t)), (3, .int (zI (co 0 0))), (4, .int (zI (co 0 1))), (5, .int (zI a5)), (6, .int (zI a6)), (7, .int (zI a7)), (9, .int (zI a9)), (11, .ref y), (12, .ref (y + 1)), (13, .ref (y + 2)), (14, .int (zI (u : Int)))]) rfl ?_
                        exact V_L (L' := [(16, .int (zI (sumZ (agL co (u : Int) (i : Int)) (j + 1)))), (17, .int (zI ((j + 1 : Nat) : Int))), (15, .int (zI (i : Int))), (8, .int (zI (sumZ (fun j => co 11 j) u + co 11 (u : Int)))), (10, .int (zI (sumZ (fun k => bz (gpS co (Int.toNat k) 8 &&& (2 ^ Int.toNat k - 1) = 0)) u + bz (gpS co (Int.toNat (u : Int)) 8 &&& (2 ^ Int.toNat (u : Int) - 1) = 0)))), (0, .ref (E 107 0)), (1, .ref x), (2, .int (zI t)), (3, .int (zI (co 0 0))), (4, .int (zI (co 0 1))), (5, .int (zI a5)), (6, .int (zI a6)), (7, .int (zI a7)), (9, .int (zI a9)), (11, .ref y), (12, .ref (y + 1)), (13, .ref (y + 2)), (14, .int (zI (u : Int)))]) (LC (vz (by rw [sumZ_s]; first | rw [agL_1 (by assumption) (by assumption) (by assumption)] | (rw [agL_2 (by assumption) (by assumption) (by assumption)]) | (rw [agL_3 (by assumption)]; omega) | (rw [agL_4 (by assumption)]; omega))) (LC (vz (by omega)) (LC rfl (LC rfl (LC rfl (LC rfl (LC rfl (LC rfl (LC rfl (LC rfl (LC rfl (LC rfl (LC rfl (LC rfl (LC rfl (LC rfl (LC rfl (LC rfl rfl)))))))))))))))))) (ih_j (by omega) _ _ hM h_cm h_co h_hw h_w h_sn h_mt h_sq)
                      · skip
                        refine v_iconst X dL_law_1377 1378 rfl ?_
                        refine v_goto X dL_law_1378 1382 (by decide) ?_
                        refine v_iadd X dL_law_1382 1383 rfl ?_
                        refine v_istore X dL_law_1383 1385 rfl (by decide) (L' := [(16, .int (zI (sumZ (agL co (u : Int) (i : Int)) j + 1))), (17, .int (zI (j : Int))), (15, .int (zI (i : Int))), (8, .int (zI (sumZ (fun j => co 11 j) u + co 11 (u : Int)))), (10, .int (zI (sumZ (fun k => bz (gpS co (Int.toNat k) 8 &&& (2 ^ Int.toNat k - 1) = 0)) u + bz (gpS co (Int.toNat (u : Int)) 8 &&& (2 ^ Int.toNat (u : Int) - 1) = 0)))), (0, .ref (E 107 0)), (1, .ref x), (2, .int (zI t)), (3, .int (zI (co 0 0))), (4, .int (zI (co 0 1))), (5, .int (zI a5)), (6, .int (zI a6)), (7, .int (zI a7)), (9, .int (zI a9)), (11, .ref y), (12, .ref (y + 1)), (13, .ref (y + 2)), (14, .int (zI (u : Int)))]) rfl ?_
                        refine v_iinc X dL_law_1385 1388 rfl 1 rfl (by decide) (L' := [(17, .int (zI ((j : Int) + 1))), (16, .int (zI (sumZ (agL co (u : Int) (i : Int)) j + 1))), (15, .int (zI (i : Int))), (8, .int (zI (sumZ (fun j => co 11 j) u + co 11 (u : Int)))), (10, .int (zI (sumZ (fun k => bz (gpS co (Int.toNat k) 8 &&& (2 ^ Int.toNat k - 1) = 0)) u + bz (gpS co (Int.toNat (u : Int)) 8 &&& (2 ^ Int.toNat (u : Int) - 1) = 0)))), (0, .ref (E 107 0)), (1, .ref x), (2, .int (zI t)), (3, .int (zI (co 0 0))), (4, .int (zI (co 0 1))), (5, .int (zI a5)), (6, .int (zI a6)), (7, .int (zI a7)), (9, .int (zI a9)), (11, .ref y), (12, .ref (y + 1)), (13, .ref (y + 2)), (14, .int (zI (u : Int)))]) rfl ?_
                        refine v_goto X dL_law_1388 1328 (by decide) ?_
                        refine v_locals [1, 0, 2, 3, 4, 5, 6, 7, 8, 9, 10, 11, 12, 13, 14, 15, 16, 17] (L' := [(16, .int (zI (sumZ (agL co (u : Int) (i : Int)) j + 1))), (17, .int (zI ((j : Int) + 1))), (15, .int (zI (i : Int))), (8, .int (zI (sumZ (fun j => co 11 j) u + co 11 (u : Int)))), (10, .int (zI (sumZ (fun k => bz (gpS co (Int.toNat k) 8 &&& (2 ^ Int.toNat k - 1) = 0)) u + bz (gpS co (Int.toNat (u : Int)) 8 &&& (2 ^ Int.toNat (u : Int) - 1) = 0)))), (0, .ref (E 107 0)), (1, .ref x), (2, .int (zI t)), (3, .int (zI (co 0 0))), (4, .int (zI (co 0 1))), (5, .int (zI a5)), (6, .int (zI a6)), (7, .int (zI a7)), (9, .int (zI a9)), (11, .ref y), (12, .ref (y + 1)), (13, .ref (y + 2)), (14, .int (zI (u : Int)))]) rfl ?_
                        exact V_L (L' := [(16, .int (zI (sumZ (agL co (u : Int) (i : Int)) (j + 1)))), (17, .int (zI ((j + 1 : Nat) : Int))), (15, .int (zI (i : Int))), (8, .int (zI (sumZ (fun j => co 11 j) u + co 11 (u : Int)))), (10, .int (zI (sumZ (fun k => bz (gpS co (Int.toNat k) 8 &&& (2 ^ Int.toNat k - 1) = 0)) u + bz (gpS co (Int.toNat (u : Int)) 8 &&& (2 ^ Int.toNat (u : Int) - 1) = 0)))), (0, .ref (E 107 0)), (1, .ref x), (2, .int (zI t)), (3, .int (zI (co 0 0))), (4, .int (zI (co 0 1))), (5, .int (zI a5)), (6, .int (zI a6)), (7, .int (zI a7)), (9, .int (zI a9)), (11, .ref y), (12, .ref (y + 1)), (13, .ref (y + 2)), (14, .int (zI (u : Int)))]) (LC (vz (by rw [sumZ_s]; first | rw [agL_1 (by assumption) (by assumption) (by assumption)] | (rw [agL_2 (by assumption) (by assumption) (by assumption)]) | (rw [agL_3 (by assumption)]; omega) | (rw [agL_4 (by assumption)]; omega))) (LC (vz (by omega)) (LC rfl (LC rfl (LC rfl (LC rfl (LC rfl (LC rfl (LC rfl (LC rfl (LC rfl (LC rfl (LC rfl (LC rfl (LC rfl (LC rfl (LC rfl (LC rfl rfl)))))))))))))))))) (ih_j (by omega) _ _ hM h_cm h_co h_hw h_w h_sn h_mt h_sq)
            · skip
              exfalso; omega
end LAWSEG
