/-! the law's walk -/
theorem vd_o {co : Nat → Int → Int} {k : Int} (h : vdC co k = -10000) : phT co k = 111 := by
  unfold vdC at h
  unfold phT
  split at h
  · rw [if_pos (by assumption)]
  · have := bz_rg (φ := ¬ co 4 k = 0)
    omega
theorem vd_g {co : Nat → Int → Int} {k : Int} (h : vdC co k = 1) : phT co k = 103 := by
  unfold vdC at h
  unfold phT
  split at h
  · omega
  · rw [if_neg (by assumption)]
    by_cases q : co 4 k = 0
    · rw [bz_f (by omega)] at h
      omega
    · rw [if_neg q]
theorem vd_n {co : Nat → Int → Int} {k : Int} (h : ¬ vdC co k = -10000) (h1 : ¬ vdC co k = 1) : phT co k = 110 := by
  unfold vdC at h h1
  unfold phT
  split at h
  · omega
  · rw [if_neg (by assumption)]
    rw [if_neg (by assumption)] at h1
    by_cases q : co 4 k = 0
    · rw [if_pos q]
    · rw [bz_t (by omega)] at h1
      omega
theorem vd_st {co : Nat → Int → Int} {k : Int} : vdC co k = -10000 ↔ co 3 k = 0 := by
  unfold vdC
  split
  · exact ⟨fun _ => by assumption, fun _ => rfl⟩
  · have := bz_rg (φ := ¬ co 4 k = 0)
    exact ⟨fun h => by omega, fun h => by omega⟩
theorem vd_b (co : Nat → Int → Int) (k : Int) : -10000 ≤ vdC co k ∧ vdC co k ≤ 1 := by
  unfold vdC
  have := bz_rg (φ := ¬ co 4 k = 0)
  split <;> omega
theorem bz3 {a : Int} (h : 0 ≤ a ∧ a ≤ 2) : bz (a = 0) + bz (a = 1) + bz (a = 2) = 1 := by
  rcases (show a = 0 ∨ a = 1 ∨ a = 2 by omega) with h | h | h <;> subst h <;> decide
section LAWSEG
variable {p : Program} {l : Launch} {e : Env} {s : State} {m : MethodId} {args : Array Value} {below : List Frame} {meth : Method} {cd : Code} {Q : State → Prop} {E : Nat → Nat → Nat} {H : Heap} {lo : List Loc} {kq nq : Nat}
set_option maxHeartbeats 4000000 in
set_option maxRecDepth 20000 in
theorem sg_head (hl : l.stackTraces = false) (X : CF p m cd cL_law 32 s args RL) {x : Nat} {y : Nat} {v : Nat} {co : Nat → Int → Int} {T : List Int} {t : Int} {sF : Int → Int} {mF : Int → Nat} {qF : Int → Int} {a5 : Int} {a6 : Int} {a7 : Int} {a8 : Int} {a9 : Int} {a10 : Int} {c : Nat} (hx : s.heap.size ≤ x) (hD : InvD co) (hO : OkC co) (hU : UqI co) (hy : x + 334 ≤ y) (hvy : v < y ∨ y + 3 ≤ v) (hn0 : co 0 0 ≤ 9) (hn1 : 4 ≤ co 0 1 ∧ co 0 1 ≤ 7) (hc : (c : Int) < co 0 0) (hM : MS E [] s H lo) (h_cm : PR E x [(x, .inr (11, [.ref (x + 1), .ref (x + 29), .ref (x + 57), .ref (x + 85), .ref (x + 311), .ref (x + 314), .ref (x + 319), .ref (x + 332), .int (zI 0), .int (zI (-1)), .int (zI (-1)), .int (zI 0)]))] H) (h_co : PR E (x + 1) (courtW E (x + 1) co) H) (h_hw : HW E x H) (h_w : RW E x v T H) (h_sn : PR E y [(y, .inl (E 102 0, 6, .inl (zA sF)))] H) (h_mt : PR E (y + 1) [(y + 1, .inl (E 102 0, 8, .inl (zA (nZ mF))))] H) (h_sq : PR E (y + 2) [(y + 2, .inl (E 102 0, 8, .inl (zA qF)))] H) (hk : kq + 20 ≤ 683119) (hn : nq + 700 ≤ 7044570) (kk : ∀ (H1 : Heap) (lo1 : List Loc) (b : Nat), (y + 3 ≤ b) → (v < b) → MS E [] s H1 lo1 → PR E x [(x, .inr (11, [.ref (x + 1), .ref (x + 29), .ref (x + 57), .ref (x + 85), .ref (x + 311), .ref (x + 314), .ref (x + 319), .ref (x + 332), .int (zI 0), .int (zI (-1)), .int (zI (-1)), .int (zI 0)]))] H1 → PR E (x + 1) (courtW E (x + 1) co) H1 → HW E x H1 → RW E x v T H1 → PR E y [(y, .inl (E 102 0, 6, .inl (zA sF)))] H1 → PR E (y + 1) [(y + 1, .inl (E 102 0, 8, .inl (zA (nZ mF))))] H1 → PR E (y + 2) [(y + 2, .inl (E 102 0, 8, .inl (zA qF)))] H1 → StrW E b (hdT co (c : Int)) H1 → V p l e room_1 s m args below meth cd Q 32 H1 lo1 (kq + 20) (nq + 700) 263 [(0, .ref (E 107 0)), (1, .ref x), (2, .int (zI t)), (3, .int (zI (co 0 0))), (4, .int (zI (co 0 1))), (5, .int (zI a5)), (6, .int (zI a6)), (7, .int (zI a7)), (8, .int (zI a8)), (9, .int (zI a9)), (10, .int (zI a10)), (11, .ref y), (12, .ref (y + 1)), (13, .ref (y + 2)), (14, .int (zI (c : Int))), (15, .int (zI (co 1 (c : Int)))), (16, .int (zI (co 2 (c : Int)))), (17, .int (zI (co 6 (c : Int)))), (18, .int (zI (vdC co (c : Int)))), (19, .int (zI (wsC co (c : Int) 1))), (20, .int (zI (wsC co (c : Int) (-1)))), (21, .int (zI (mgC co (c : Int)))), (22, .int (zI 0)), (23, .int (zI (-30000))), (24, .int (zI 0)), (25, .ref b)] []) : V p l e room_1 s m args below meth cd Q 32 H lo kq nq 103 [(0, .ref (E 107 0)), (1, .ref x), (2, .int (zI t)), (3, .int (zI (co 0 0))), (4, .int (zI (co 0 1))), (5, .int (zI a5)), (6, .int (zI a6)), (7, .int (zI a7)), (8, .int (zI a8)), (9, .int (zI a9)), (10, .int (zI a10)), (11, .ref y), (12, .ref (y + 1)), (13, .ref (y + 2)), (14, .int (zI (c : Int)))] [] := by
  have hvl := h_w.lt
  have hb0 := hO.b0
  have hbw := hO.bw
  have hvd := vd_b co (c : Int)
  have hws1 := wsC_b hO (c : Int) 1
  have hws2 := wsC_b hO (c : Int) (-1)
  have hmg := mgC_split hO hD.inv.ts (k := (c : Int)) (by omega) (by omega)
  have hmgb := mgC_b hO (c : Int)
  refine v_aload_n X dL_law_103 104 rfl 1 rfl ?_
  refine v_iload X dL_law_104 106 rfl 14 rfl ?_
  have hb_1 := hO.b0
  refine v_rdV X hM.C (PW.app h_cm.1 h_co.1) (c_X9_defendantOf l E x co 0 (-1) (-1) 0 (c : Int) hO (by omega) (by omega)) kvX9_defendantOf kiX9_defendantOf kl_L_139 rfl rfl (As := [.int (zI (c : Int))]) rfl rfl (rm_law0 rfl (by omega) (by omega)) dL_law_106 109 rfl ?_
  show V p l e room_1 s m args below meth cd Q 32 H lo kq nq 109 [(0, .ref (E 107 0)), (1, .ref x), (2, .int (zI t)), (3, .int (zI (co 0 0))), (4, .int (zI (co 0 1))), (5, .int (zI a5)), (6, .int (zI a6)), (7, .int (zI a7)), (8, .int (zI a8)), (9, .int (zI a9)), (10, .int (zI a10)), (11, .ref y), (12, .ref (y + 1)), (13, .ref (y + 2)), (14, .int (zI (c : Int)))] [.int (zI (co 1 (c : Int)))]
  have hb_2 := hO.b1 (c : Int)
  refine v_istore X dL_law_109 111 rfl (by decide) (L' := [(15, .int (zI (co 1 (c : Int)))), (0, .ref (E 107 0)), (1, .ref x), (2, .int (zI t)), (3, .int (zI (co 0 0))), (4, .int (zI (co 0 1))), (5, .int (zI a5)), (6, .int (zI a6)), (7, .int (zI a7)), (8, .int (zI a8)), (9, .int (zI a9)), (10, .int (zI a10)), (11, .ref y), (12, .ref (y + 1)), (13, .ref (y + 2)), (14, .int (zI (c : Int)))]) rfl ?_
  refine v_aload_n X dL_law_111 112 rfl 2 rfl ?_
  refine v_iload X dL_law_112 114 rfl 15 rfl ?_
  refine v_rdV X hM.C (PW.app h_cm.1 h_co.1) (c_X9_offenceOf l E x co 0 (-1) (-1) 0 (c : Int) hO (by omega) (by omega)) kvX9_offenceOf kiX9_offenceOf kl_L_142 rfl rfl (As := [.int (zI (c : Int))]) rfl rfl (rm_law0 rfl (by omega) (by omega)) dL_law_114 117 rfl ?_
  show V p l e room_1 s m args below meth cd Q 32 H lo kq nq 117 [(15, .int (zI (co 1 (c : Int)))), (0, .ref (E 107 0)), (1, .ref x), (2, .int (zI t)), (3, .int (zI (co 0 0))), (4, .int (zI (co 0 1))), (5, .int (zI a5)), (6, .int (zI a6)), (7, .int (zI a7)), (8, .int (zI a8)), (9, .int (zI a9)), (10, .int (zI a10)), (11, .ref y), (12, .ref (y + 1)), (13, .ref (y + 2)), (14, .int (zI (c : Int)))] [.int (zI (co 2 (c : Int)))]
  have hb_3 := hO.b2 (c : Int)
  refine v_istore X dL_law_117 119 rfl (by decide) (L' := [(16, .int (zI (co 2 (c : Int)))), (15, .int (zI (co 1 (c : Int)))), (0, .ref (E 107 0)), (1, .ref x), (2, .int (zI t)), (3, .int (zI (co 0 0))), (4, .int (zI (co 0 1))), (5, .int (zI a5)), (6, .int (zI a6)), (7, .int (zI a7)), (8, .int (zI a8)), (9, .int (zI a9)), (10, .int (zI a10)), (11, .ref y), (12, .ref (y + 1)), (13, .ref (y + 2)), (14, .int (zI (c : Int)))]) rfl ?_
  refine v_aload_n X dL_law_119 120 rfl 3 rfl ?_
  refine v_iload X dL_law_120 122 rfl 16 rfl ?_
  refine v_rdV X hM.C (PW.app h_cm.1 h_co.1) (c_X9_testimonyCount l E x co 0 (-1) (-1) 0 (c : Int) hO (by omega) (by omega)) kvX9_testimonyCount kiX9_testimonyCount kl_L_109 rfl rfl (As := [.int (zI (c : Int))]) rfl rfl (rm_law0 rfl (by omega) (by omega)) dL_law_122 125 rfl ?_
  show V p l e room_1 s m args below meth cd Q 32 H lo kq nq 125 [(16, .int (zI (co 2 (c : Int)))), (15, .int (zI (co 1 (c : Int)))), (0, .ref (E 107 0)), (1, .ref x), (2, .int (zI t)), (3, .int (zI (co 0 0))), (4, .int (zI (co 0 1))), (5, .int (zI a5)), (6, .int (zI a6)), (7, .int (zI a7)), (8, .int (zI a8)), (9, .int (zI a9)), (10, .int (zI a10)), (11, .ref y), (12, .ref (y + 1)), (13, .ref (y + 2)), (14, .int (zI (c : Int)))] [.int (zI (co 6 (c : Int)))]
  have hb_4 := hO.b6 (c : Int)
  refine v_istore X dL_law_125 127 rfl (by decide) (L' := [(17, .int (zI (co 6 (c : Int)))), (16, .int (zI (co 2 (c : Int)))), (15, .int (zI (co 1 (c : Int)))), (0, .ref (E 107 0)), (1, .ref x), (2, .int (zI t)), (3, .int (zI (co 0 0))), (4, .int (zI (co 0 1))), (5, .int (zI a5)), (6, .int (zI a6)), (7, .int (zI a7)), (8, .int (zI a8)), (9, .int (zI a9)), (10, .int (zI a10)), (11, .ref y), (12, .ref (y + 1)), (13, .ref (y + 2)), (14, .int (zI (c : Int)))]) rfl ?_
  refine v_aload_n X dL_law_127 128 rfl 4 rfl ?_
  refine v_iload X dL_law_128 130 rfl 17 rfl ?_
  refine v_mwS X hM (p_verdict l hl E x co (c : Int) hO (by omega) (by omega)) kwL_verdict ksL_verdict kl_L_145 (As := [.ref x, .int (zI (c : Int))]) rfl rfl (rm_lawW rfl (by omega) (by omega)) dL_law_130 133 rfl (k' := kq + 1) (n' := nq + 6) rfl rfl (fun q hq => hq.elim) ⟨h_cm, h_co⟩ (fun rv H5 lo5 hM hF hpo => ?_)
  subst hpo
  replace h_cm := h_cm.kept hF 1 rfl (fun q _ _ h => h.elim)
  replace h_co := h_co.kept hF 28 rfl (fun q _ _ h => h.elim)
  replace h_hw := h_hw.kept hF (fun q _ _ h => h.elim)
  replace h_w := h_w.kept hF (fun q _ h => h.elim)
  replace h_sn := h_sn.kept hF 1 rfl (fun q _ _ h => h.elim)
  replace h_mt := h_mt.kept hF 1 rfl (fun q _ _ h => h.elim)
  replace h_sq := h_sq.kept hF 1 rfl (fun q _ _ h => h.elim)
  show V p l e room_1 s m args below meth cd Q 32 H5 lo5 (kq + 1) (nq + 6) 133 [(17, .int (zI (co 6 (c : Int)))), (16, .int (zI (co 2 (c : Int)))), (15, .int (zI (co 1 (c : Int)))), (0, .ref (E 107 0)), (1, .ref x), (2, .int (zI t)), (3, .int (zI (co 0 0))), (4, .int (zI (co 0 1))), (5, .int (zI a5)), (6, .int (zI a6)), (7, .int (zI a7)), (8, .int (zI a8)), (9, .int (zI a9)), (10, .int (zI a10)), (11, .ref y), (12, .ref (y + 1)), (13, .ref (y + 2)), (14, .int (zI (c : Int)))] [.int (zI (vdC co (c : Int)))]
  refine v_istore X dL_law_133 135 rfl (by decide) (L' := [(18, .int (zI (vdC co (c : Int)))), (17, .int (zI (co 6 (c : Int)))), (16, .int (zI (co 2 (c : Int)))), (15, .int (zI (co 1 (c : Int)))), (0, .ref (E 107 0)), (1, .ref x), (2, .int (zI t)), (3, .int (zI (co 0 0))), (4, .int (zI (co 0 1))), (5, .int (zI a5)), (6, .int (zI a6)), (7, .int (zI a7)), (8, .int (zI a8)), (9, .int (zI a9)), (10, .int (zI a10)), (11, .ref y), (12, .ref (y + 1)), (13, .ref (y + 2)), (14, .int (zI (c : Int)))]) rfl ?_
  refine v_aload_n X dL_law_135 136 rfl 5 rfl ?_
  refine v_iload X dL_law_136 138 rfl 18 rfl ?_
  refine v_iconst X dL_law_138 139 rfl ?_
  refine v_rdS X hM.C (PW.app h_cm.1 h_co.1) (c_L_weight1 l E x co (c : Int) hO hD.inv.ts (by omega) (by omega)) kvL_weight ksL_weight kl_L_148 (As := [.ref x, .int (zI (c : Int)), .int (zI 1)]) rfl rfl (rm_law0 rfl (by omega) (by omega)) dL_law_139 142 rfl ?_
  show V p l e room_1 s m args below meth cd Q 32 H5 lo5 (kq + 1) (nq + 6) 142 [(18, .int (zI (vdC co (c : Int)))), (17, .int (zI (co 6 (c : Int)))), (16, .int (zI (co 2 (c : Int)))), (15, .int (zI (co 1 (c : Int)))), (0, .ref (E 107 0)), (1, .ref x), (2, .int (zI t)), (3, .int (zI (co 0 0))), (4, .int (zI (co 0 1))), (5, .int (zI a5)), (6, .int (zI a6)), (7, .int (zI a7)), (8, .int (zI a8)), (9, .int (zI a9)), (10, .int (zI a10)), (11, .ref y), (12, .ref (y + 1)), (13, .ref (y + 2)), (14, .int (zI (c : Int)))] [.int (zI (wsC co (c : Int) 1))]
  refine v_istore X dL_law_142 144 rfl (by decide) (L' := [(19, .int (zI (wsC co (c : Int) 1))), (18, .int (zI (vdC co (c : Int)))), (17, .int (zI (co 6 (c : Int)))), (16, .int (zI (co 2 (c : Int)))), (15, .int (zI (co 1 (c : Int)))), (0, .ref (E 107 0)), (1, .ref x), (2, .int (zI t)), (3, .int (zI (co 0 0))), (4, .int (zI (co 0 1))), (5, .int (zI a5)), (6, .int (zI a6)), (7, .int (zI a7)), (8, .int (zI a8)), (9, .int (zI a9)), (10, .int (zI a10)), (11, .ref y), (12, .ref (y + 1)), (13, .ref (y + 2)), (14, .int (zI (c : Int)))]) rfl ?_
  refine v_aload_n X dL_law_144 145 rfl 6 rfl ?_
  refine v_iload X dL_law_145 147 rfl 19 rfl ?_
  refine v_iconst X dL_law_147 148 rfl ?_
  refine v_rdS X hM.C (PW.app h_cm.1 h_co.1) (c_L_weight0 l E x co (c : Int) hO hD.inv.ts (by omega) (by omega)) kvL_weight ksL_weight kl_L_148 (As := [.ref x, .int (zI (c : Int)), .int (zI 0)]) rfl rfl (rm_law0 rfl (by omega) (by omega)) dL_law_148 151 rfl ?_
  show V p l e room_1 s m args below meth cd Q 32 H5 lo5 (kq + 1) (nq + 6) 151 [(19, .int (zI (wsC co (c : Int) 1))), (18, .int (zI (vdC co (c : Int)))), (17, .int (zI (co 6 (c : Int)))), (16, .int (zI (co 2 (c : Int)))), (15, .int (zI (co 1 (c : Int)))), (0, .ref (E 107 0)), (1, .ref x), (2, .int (zI t)), (3, .int (zI (co 0 0))), (4, .int (zI (co 0 1))), (5, .int (zI a5)), (6, .int (zI a6)), (7, .int (zI a7)), (8, .int (zI a8)), (9, .int (zI a9)), (10, .int (zI a10)), (11, .ref y), (12, .ref (y + 1)), (13, .ref (y + 2)), (14, .int (zI (c : Int)))] [.int (zI (wsC co (c : Int) (-1)))]
  refine v_istore X dL_law_151 153 rfl (by decide) (L' := [(20, .int (zI (wsC co (c : Int) (-1)))), (19, .int (zI (wsC co (c : Int) 1))), (18, .int (zI (vdC co (c : Int)))), (17, .int (zI (co 6 (c : Int)))), (16, .int (zI (co 2 (c : Int)))), (15, .int (zI (co 1 (c : Int)))), (0, .ref (E 107 0)), (1, .ref x), (2, .int (zI t)), (3, .int (zI (co 0 0))), (4, .int (zI (co 0 1))), (5, .int (zI a5)), (6, .int (zI a6)), (7, .int (zI a7)), (8, .int (zI a8)), (9, .int (zI a9)), (10, .int (zI a10)), (11, .ref y), (12, .ref (y + 1)), (13, .ref (y + 2)), (14, .int (zI (c : Int)))]) rfl ?_
  refine v_iload X dL_law_153 155 rfl 1 rfl ?_
  refine v_iload X dL_law_155 157 rfl 0 rfl ?_
  refine v_isub X dL_law_157 158 rfl ?_
  refine v_iconst X dL_law_158 159 rfl ?_
  refine v_iload X dL_law_159 161 rfl 4 rfl ?_
  refine v_iconst X dL_law_161 162 rfl ?_
  refine v_iadd X dL_law_162 163 rfl ?_
  refine v_imul X dL_law_163 164 rfl ?_
  refine v_isub X dL_law_164 165 rfl ?_
  refine v_istore X dL_law_165 167 rfl (by decide) (L' := [(21, .int (zI (wsC co (c : Int) 1 - wsC co (c : Int) (-1) - (2 * (co 2 (c : Int) + 1))))), (20, .int (zI (wsC co (c : Int) (-1)))), (19, .int (zI (wsC co (c : Int) 1))), (18, .int (zI (vdC co (c : Int)))), (17, .int (zI (co 6 (c : Int)))), (16, .int (zI (co 2 (c : Int)))), (15, .int (zI (co 1 (c : Int)))), (0, .ref (E 107 0)), (1, .ref x), (2, .int (zI t)), (3, .int (zI (co 0 0))), (4, .int (zI (co 0 1))), (5, .int (zI a5)), (6, .int (zI a6)), (7, .int (zI a7)), (8, .int (zI a8)), (9, .int (zI a9)), (10, .int (zI a10)), (11, .ref y), (12, .ref (y + 1)), (13, .ref (y + 2)), (14, .int (zI (c : Int)))]) rfl ?_
  refine v_iconst X dL_law_167 168 rfl ?_
  refine v_istore X dL_law_168 170 rfl (by decide) (L' := [(22, .int (zI 0)), (21, .int (zI (wsC co (c : Int) 1 - wsC co (c : Int) (-1) - (2 * (co 2 (c : Int) + 1))))), (20, .int (zI (wsC co (c : Int) (-1)))), (19, .int (zI (wsC co (c : Int) 1))), (18, .int (zI (vdC co (c : Int)))), (17, .int (zI (co 6 (c : Int)))), (16, .int (zI (co 2 (c : Int)))), (15, .int (zI (co 1 (c : Int)))), (0, .ref (E 107 0)), (1, .ref x), (2, .int (zI t)), (3, .int (zI (co 0 0))), (4, .int (zI (co 0 1))), (5, .int (zI a5)), (6, .int (zI a6)), (7, .int (zI a7)), (8, .int (zI a8)), (9, .int (zI a9)), (10, .int (zI a10)), (11, .ref y), (12, .ref (y + 1)), (13, .ref (y + 2)), (14, .int (zI (c : Int)))]) rfl ?_
  refine v_sipush X dL_law_170 173 rfl rfl ?_
  refine v_istore X dL_law_173 175 rfl (by decide) (L' := [(23, .int (zI (-30000))), (22, .int (zI 0)), (21, .int (zI (wsC co (c : Int) 1 - wsC co (c : Int) (-1) - (2 * (co 2 (c : Int) + 1))))), (20, .int (zI (wsC co (c : Int) (-1)))), (19, .int (zI (wsC co (c : Int) 1))), (18, .int (zI (vdC co (c : Int)))), (17, .int (zI (co 6 (c : Int)))), (16, .int (zI (co 2 (c : Int)))), (15, .int (zI (co 1 (c : Int)))), (0, .ref (E 107 0)), (1, .ref x), (2, .int (zI t)), (3, .int (zI (co 0 0))), (4, .int (zI (co 0 1))), (5, .int (zI a5)), (6, .int (zI a6)), (7, .int (zI a7)), (8, .int (zI a8)), (9, .int (zI a9)), (10, .int (zI a10)), (11, .ref y), (12, .ref (y + 1)), (13, .ref (y + 2)), (14, .int (zI (c : Int)))]) rfl ?_
  refine v_iconst X dL_law_175 176 rfl ?_
  refine v_istore X dL_law_176 178 rfl (by decide) (L' := [(24, .int (zI 0)), (23, .int (zI (-30000))), (22, .int (zI 0)), (21, .int (zI (wsC co (c : Int) 1 - wsC co (c : Int) (-1) - (2 * (co 2 (c : Int) + 1))))), (20, .int (zI (wsC co (c : Int) (-1)))), (19, .int (zI (wsC co (c : Int) 1))), (18, .int (zI (vdC co (c : Int)))), (17, .int (zI (co 6 (c : Int)))), (16, .int (zI (co 2 (c : Int)))), (15, .int (zI (co 1 (c : Int)))), (0, .ref (E 107 0)), (1, .ref x), (2, .int (zI t)), (3, .int (zI (co 0 0))), (4, .int (zI (co 0 1))), (5, .int (zI a5)), (6, .int (zI a6)), (7, .int (zI a7)), (8, .int (zI a8)), (9, .int (zI a9)), (10, .int (zI a10)), (11, .ref y), (12, .ref (y + 1)), (13, .ref (y + 2)), (14, .int (zI (c : Int)))]) rfl ?_
  obtain ⟨b0, hz⟩ : ∃ o9 : Nat, H5.size = o9 := ⟨_, rfl⟩
  have hvb_6 : v < b0 := by have := h_w.lt; omega
  have hyb_7 : y + 2 + 1 ≤ b0 := by have := (h_sq.1 0 _ rfl).lt; omega
  refine v_new (ci := 1) X hM ftJ4 kc_L_152 kins_J4 kini_java_lang_StringBuilder rfl dfJ4 (rm_nw (by show _ ≤ 683119; omega) (by show _ ≤ 7044570; omega)) dL_law_178 181 rfl (k' := kq + 2) (n' := nq + 10) rfl rfl (fun o H8 ho hz1 hM hF h_new => ?_)
  obtain rfl : b0 = o := (ho.trans hz).symm
  replace hz : H8.size = b0 + 1 := hz1
  clear ho hz1
  have h_n_9 : PR E b0 [(b0, .inr (1, [.null, .int 0, .int 0, .int 0]))] H8 := h_new
  replace h_cm := h_cm.kept hF 1 rfl (fun q _ _ h => h.elim)
  replace h_co := h_co.kept hF 28 rfl (fun q _ _ h => h.elim)
  replace h_hw := h_hw.kept hF (fun q _ _ h => h.elim)
  replace h_w := h_w.kept hF (fun q _ h => h.elim)
  replace h_sn := h_sn.kept hF 1 rfl (fun q _ _ h => h.elim)
  replace h_mt := h_mt.kept hF 1 rfl (fun q _ _ h => h.elim)
  replace h_sq := h_sq.kept hF 1 rfl (fun q _ _ h => h.elim)
  refine v_dup X dL_law_181 182 rfl rfl ?_
  refine v_muI X hM (c_J4_init_da8c8 l E b0) rfl kvJ4_init_da8c8 kiiJ4_init_da8c8 rfl kl_L_154 (As := []) rfl rfl (rm_law rfl (by omega) (by omega)) dL_law_182 185 rfl (k' := kq + 3) (n' := nq + 26) rfl rfl (fsI (fun q q1 q2 => Or.inr (by omega))) ⟨h_n_9, hz⟩ (fun rv H10 lo10 hM hF hpo => ?_)
  obtain ⟨rfl, hw_0, hz9⟩ := hpo
  clear hz
  clear h_n_9
  have hv9 : b0 + 1 ≤ b0 + 1 := Nat.le_refl _
  have hzl : b0 + 2 ≤ H10.size := by omega
  clear hz9
  replace h_cm := h_cm.kept hF 1 rfl (by intro q q1 q2 q3; simp only [Fs, or_false] at q3; omega)
  replace h_co := h_co.kept hF 28 rfl (by intro q q1 q2 q3; simp only [Fs, or_false] at q3; omega)
  replace h_hw := h_hw.kept hF (by intro q q1 q2 q3; simp only [Fs, or_false] at q3; omega)
  replace h_w := h_w.kept hF (by intro q q1 q3; simp only [Fs, or_false] at q3; omega)
  replace h_sn := h_sn.kept hF 1 rfl (by intro q q1 q2 q3; simp only [Fs, or_false] at q3; omega)
  replace h_mt := h_mt.kept hF 1 rfl (by intro q q1 q2 q3; simp only [Fs, or_false] at q3; omega)
  replace h_sq := h_sq.kept hF 1 rfl (by intro q q1 q2 q3; simp only [Fs, or_false] at q3; omega)
  have h_sb : PR E b0 [(b0, .inr (1, [.ref (b0 + 1), .int (zI 0), .int (zI 0), .int (zI 0)]))] H10 := hw_0.sub 0 1 rfl rfl
  have h_sa : PR E (b0 + 1) [(b0 + 1, .inl (E 102 2, 16, .inl (zA (fun _ => 0))))] H10 := hw_0.sub 1 1 rfl rfl
  clear hw_0
  have hT9 : SBs (fun _ => 0) 16 0 [] := ⟨Or.inl rfl, by decide, fun _ => ⟨Int.le_refl _, (by decide : (0 : Int) < 128)⟩, LT.nil⟩
  show V p l e room_1 s m args below meth cd Q 32 H10 lo10 (kq + 3) (nq + 26) 185 [(24, .int (zI 0)), (23, .int (zI (-30000))), (22, .int (zI 0)), (21, .int (zI (wsC co (c : Int) 1 - wsC co (c : Int) (-1) - (2 * (co 2 (c : Int) + 1))))), (20, .int (zI (wsC co (c : Int) (-1)))), (19, .int (zI (wsC co (c : Int) 1))), (18, .int (zI (vdC co (c : Int)))), (17, .int (zI (co 6 (c : Int)))), (16, .int (zI (co 2 (c : Int)))), (15, .int (zI (co 1 (c : Int)))), (0, .ref (E 107 0)), (1, .ref x), (2, .int (zI t)), (3, .int (zI (co 0 0))), (4, .int (zI (co 0 1))), (5, .int (zI a5)), (6, .int (zI a6)), (7, .int (zI a7)), (8, .int (zI a8)), (9, .int (zI a9)), (10, .int (zI a10)), (11, .ref y), (12, .ref (y + 1)), (13, .ref (y + 2)), (14, .int (zI (c : Int)))] [.ref b0]
  refine v_iload X dL_law_185 187 rfl 24 rfl ?_
  refine v_muV X hM h_sb.1 (c_J4_appS l E b0 (b0 + 1) 16 (fun _ => 0) 0 0 (b0 + 2) (c : Int) [] (by omega) (by omega) (by omega) hT9 (by omega) (by omega)) kvJ4_append_bf812 kiJ4_append_bf812 kl_L_155 (q0 := 0) rfl rfl (As := [.int (zI (c : Int))]) rfl rfl (rm_law rfl (by omega) (by omega)) dL_law_187 190 rfl (k' := kq + 4) (n' := nq + 96) rfl rfl (by intro q hq; simp only [Fr, Fs, or_false, false_or] at hq ⊢; omega) ⟨h_sb, h_sa, hzl⟩ (fun rv H11 lo11 hM hF hpo => ?_)
  obtain ⟨v_12, N_13, f_14, rfl, hp9, hT8, hw_0, hw_1⟩ := hpo
  have hv8 : b0 + 1 ≤ v_12 := by omega
  replace hzl := Nat.le_trans hzl hF.1
  replace h_cm := h_cm.kept hF 1 rfl (by intro q q1 q2 q3; simp only [Fs, or_false] at q3; omega)
  replace h_co := h_co.kept hF 28 rfl (by intro q q1 q2 q3; simp only [Fs, or_false] at q3; omega)
  replace h_hw := h_hw.kept hF (by intro q q1 q2 q3; simp only [Fs, or_false] at q3; omega)
  replace h_w := h_w.kept hF (by intro q q1 q3; simp only [Fs, or_false] at q3; omega)
  replace h_sn := h_sn.kept hF 1 rfl (by intro q q1 q2 q3; simp only [Fs, or_false] at q3; omega)
  replace h_mt := h_mt.kept hF 1 rfl (by intro q q1 q2 q3; simp only [Fs, or_false] at q3; omega)
  replace h_sq := h_sq.kept hF 1 rfl (by intro q q1 q2 q3; simp only [Fs, or_false] at q3; omega)
  clear hp9 hT9 hv9
  have hv9 := hv8
  clear hv8
  have hT9 := hT8
  clear hT8
  have h_sb : PR E b0 [(b0, .inr (1, [.ref v_12, .int (zI 0), .int (zI 0), .int (zI (0 + 1))]))] H11 := hw_0
  have h_sa : PR E v_12 [(v_12, .inl (E 102 2, N_13, .inl (zA f_14)))] H11 := hw_1
  clear hw_0 hw_1
  show V p l e room_1 s m args below meth cd Q 32 H11 lo11 (kq + 4) (nq + 96) 190 [(24, .int (zI 0)), (23, .int (zI (-30000))), (22, .int (zI 0)), (21, .int (zI (wsC co (c : Int) 1 - wsC co (c : Int) (-1) - (2 * (co 2 (c : Int) + 1))))), (20, .int (zI (wsC co (c : Int) (-1)))), (19, .int (zI (wsC co (c : Int) 1))), (18, .int (zI (vdC co (c : Int)))), (17, .int (zI (co 6 (c : Int)))), (16, .int (zI (co 2 (c : Int)))), (15, .int (zI (co 1 (c : Int)))), (0, .ref (E 107 0)), (1, .ref x), (2, .int (zI t)), (3, .int (zI (co 0 0))), (4, .int (zI (co 0 1))), (5, .int (zI a5)), (6, .int (zI a6)), (7, .int (zI a7)), (8, .int (zI a8)), (9, .int (zI a9)), (10, .int (zI a10)), (11, .ref y), (12, .ref (y + 1)), (13, .ref (y + 2)), (14, .int (zI (c : Int)))] [.ref b0]
  refine v_kws X hM.C (35 + 0) rfl rfl rfl dL_law_190 192 rfl ?_
  refine v_muV X hM h_sb.1 (c_J4_appK1 l E b0 v_12 N_13 f_14 0 (0 + 1) (b0 + 2) 0 58 ([] ++ [48 + (c : Int)]) (by decide) (by decide +kernel) (by omega) hT9 (by omega) (by omega)) kvJ4_append_15ec4 kiJ4_append_15ec4 kl_L_161 (q0 := 0) rfl rfl (As := [.ref (E 105 (35 + 0))]) rfl rfl (rm_law rfl (by omega) (by omega)) dL_law_192 195 rfl (k' := kq + 5) (n' := nq + 166) rfl rfl (by intro q hq; simp only [Fr, Fs, or_false, false_or] at hq ⊢; omega) ⟨h_sb, h_sa, hzl⟩ (fun rv H15 lo15 hM hF hpo => ?_)
  obtain ⟨v_16, N_17, f_18, rfl, hp9, hT8, hw_0, hw_1⟩ := hpo
  have hv8 : b0 + 1 ≤ v_16 := by omega
  replace hzl := Nat.le_trans hzl hF.1
  replace h_cm := h_cm.kept hF 1 rfl (by intro q q1 q2 q3; simp only [Fs, or_false] at q3; omega)
  replace h_co := h_co.kept hF 28 rfl (by intro q q1 q2 q3; simp only [Fs, or_false] at q3; omega)
  replace h_hw := h_hw.kept hF (by intro q q1 q2 q3; simp only [Fs, or_false] at q3; omega)
  replace h_w := h_w.kept hF (by intro q q1 q3; simp only [Fs, or_false] at q3; omega)
  replace h_sn := h_sn.kept hF 1 rfl (by intro q q1 q2 q3; simp only [Fs, or_false] at q3; omega)
  replace h_mt := h_mt.kept hF 1 rfl (by intro q q1 q2 q3; simp only [Fs, or_false] at q3; omega)
  replace h_sq := h_sq.kept hF 1 rfl (by intro q q1 q2 q3; simp only [Fs, or_false] at q3; omega)
  clear hp9 hT9 hv9
  have hv9 := hv8
  clear hv8
  have hT9 := hT8
  clear hT8
  have h_sb : PR E b0 [(b0, .inr (1, [.ref v_16, .int (zI 0), .int (zI 0), .int (zI (0 + 1 + 1))]))] H15 := hw_0
  have h_sa : PR E v_16 [(v_16, .inl (E 102 2, N_17, .inl (zA f_18)))] H15 := hw_1
  clear hw_0 hw_1
  show V p l e room_1 s m args below meth cd Q 32 H15 lo15 (kq + 5) (nq + 166) 195 [(24, .int (zI 0)), (23, .int (zI (-30000))), (22, .int (zI 0)), (21, .int (zI (wsC co (c : Int) 1 - wsC co (c : Int) (-1) - (2 * (co 2 (c : Int) + 1))))), (20, .int (zI (wsC co (c : Int) (-1)))), (19, .int (zI (wsC co (c : Int) 1))), (18, .int (zI (vdC co (c : Int)))), (17, .int (zI (co 6 (c : Int)))), (16, .int (zI (co 2 (c : Int)))), (15, .int (zI (co 1 (c : Int)))), (0, .ref (E 107 0)), (1, .ref x), (2, .int (zI t)), (3, .int (zI (co 0 0))), (4, .int (zI (co 0 1))), (5, .int (zI a5)), (6, .int (zI a6)), (7, .int (zI a7)), (8, .int (zI a8)), (9, .int (zI a9)), (10, .int (zI a10)), (11, .ref y), (12, .ref (y + 1)), (13, .ref (y + 2)), (14, .int (zI (c : Int)))] [.ref b0]
  refine v_iload X dL_law_195 197 rfl 9 rfl ?_
  refine v_muV X hM h_sb.1 (c_J4_appS l E b0 v_16 N_17 f_18 0 (0 + 1 + 1) (b0 + 2) (co 1 (c : Int)) ([] ++ [48 + (c : Int)] ++ [58]) (by omega) (by omega) (by omega) hT9 (by omega) (by omega)) kvJ4_append_bf812 kiJ4_append_bf812 kl_L_155 (q0 := 0) rfl rfl (As := [.int (zI (co 1 (c : Int)))]) rfl rfl (rm_law rfl (by omega) (by omega)) dL_law_197 200 rfl (k' := kq + 6) (n' := nq + 236) rfl rfl (by intro q hq; simp only [Fr, Fs, or_false, false_or] at hq ⊢; omega) ⟨h_sb, h_sa, hzl⟩ (fun rv H19 lo19 hM hF hpo => ?_)
  obtain ⟨v_20, N_21, f_22, rfl, hp9, hT8, hw_0, hw_1⟩ := hpo
  have hv8 : b0 + 1 ≤ v_20 := by omega
  replace hzl := Nat.le_trans hzl hF.1
  replace h_cm := h_cm.kept hF 1 rfl (by intro q q1 q2 q3; simp only [Fs, or_false] at q3; omega)
  replace h_co := h_co.kept hF 28 rfl (by intro q q1 q2 q3; simp only [Fs, or_false] at q3; omega)
  replace h_hw := h_hw.kept hF (by intro q q1 q2 q3; simp only [Fs, or_false] at q3; omega)
  replace h_w := h_w.kept hF (by intro q q1 q3; simp only [Fs, or_false] at q3; omega)
  replace h_sn := h_sn.kept hF 1 rfl (by intro q q1 q2 q3; simp only [Fs, or_false] at q3; omega)
  replace h_mt := h_mt.kept hF 1 rfl (by intro q q1 q2 q3; simp only [Fs, or_false] at q3; omega)
  replace h_sq := h_sq.kept hF 1 rfl (by intro q q1 q2 q3; simp only [Fs, or_false] at q3; omega)
  clear hp9 hT9 hv9
  have hv9 := hv8
  clear hv8
  have hT9 := hT8
  clear hT8
  have h_sb : PR E b0 [(b0, .inr (1, [.ref v_20, .int (zI 0), .int (zI 0), .int (zI (0 + 1 + 1 + 1))]))] H19 := hw_0
  have h_sa : PR E v_20 [(v_20, .inl (E 102 2, N_21, .inl (zA f_22)))] H19 := hw_1
  clear hw_0 hw_1
  show V p l e room_1 s m args below meth cd Q 32 H19 lo19 (kq + 6) (nq + 236) 200 [(24, .int (zI 0)), (23, .int (zI (-30000))), (22, .int (zI 0)), (21, .int (zI (wsC co (c : Int) 1 - wsC co (c : Int) (-1) - (2 * (co 2 (c : Int) + 1))))), (20, .int (zI (wsC co (c : Int) (-1)))), (19, .int (zI (wsC co (c : Int) 1))), (18, .int (zI (vdC co (c : Int)))), (17, .int (zI (co 6 (c : Int)))), (16, .int (zI (co 2 (c : Int)))), (15, .int (zI (co 1 (c : Int)))), (0, .ref (E 107 0)), (1, .ref x), (2, .int (zI t)), (3, .int (zI (co 0 0))), (4, .int (zI (co 0 1))), (5, .int (zI a5)), (6, .int (zI a6)), (7, .int (zI a7)), (8, .int (zI a8)), (9, .int (zI a9)), (10, .int (zI a10)), (11, .ref y), (12, .ref (y + 1)), (13, .ref (y + 2)), (14, .int (zI (c : Int)))] [.ref b0]
  refine v_kws X hM.C (35 + 1) rfl rfl rfl dL_law_200 202 rfl ?_
  refine v_muV X hM h_sb.1 (c_J4_appK1 l E b0 v_20 N_21 f_22 0 (0 + 1 + 1 + 1) (b0 + 2) 1 47 ([] ++ [48 + (c : Int)] ++ [58] ++ [48 + co 1 (c : Int)]) (by decide) (by decide +kernel) (by omega) hT9 (by omega) (by omega)) kvJ4_append_15ec4 kiJ4_append_15ec4 kl_L_161 (q0 := 0) rfl rfl (As := [.ref (E 105 (35 + 1))]) rfl rfl (rm_law rfl (by omega) (by omega)) dL_law_202 205 rfl (k' := kq + 7) (n' := nq + 306) rfl rfl (by intro q hq; simp only [Fr, Fs, or_false, false_or] at hq ⊢; omega) ⟨h_sb, h_sa, hzl⟩ (fun rv H23 lo23 hM hF hpo => ?_)
  obtain ⟨v_24, N_25, f_26, rfl, hp9, hT8, hw_0, hw_1⟩ := hpo
  have hv8 : b0 + 1 ≤ v_24 := by omega
  replace hzl := Nat.le_trans hzl hF.1
  replace h_cm := h_cm.kept hF 1 rfl (by intro q q1 q2 q3; simp only [Fs, or_false] at q3; omega)
  replace h_co := h_co.kept hF 28 rfl (by intro q q1 q2 q3; simp only [Fs, or_false] at q3; omega)
  replace h_hw := h_hw.kept hF (by intro q q1 q2 q3; simp only [Fs, or_false] at q3; omega)
  replace h_w := h_w.kept hF (by intro q q1 q3; simp only [Fs, or_false] at q3; omega)
  replace h_sn := h_sn.kept hF 1 rfl (by intro q q1 q2 q3; simp only [Fs, or_false] at q3; omega)
  replace h_mt := h_mt.kept hF 1 rfl (by intro q q1 q2 q3; simp only [Fs, or_false] at q3; omega)
  replace h_sq := h_sq.kept hF 1 rfl (by intro q q1 q2 q3; simp only [Fs, or_false] at q3; omega)
  clear hp9 hT9 hv9
  have hv9 := hv8
  clear hv8
  have hT9 := hT8
  clear hT8
  have h_sb : PR E b0 [(b0, .inr (1, [.ref v_24, .int (zI 0), .int (zI 0), .int (zI (0 + 1 + 1 + 1 + 1))]))] H23 := hw_0
  have h_sa : PR E v_24 [(v_24, .inl (E 102 2, N_25, .inl (zA f_26)))] H23 := hw_1
  clear hw_0 hw_1
  show V p l e room_1 s m args below meth cd Q 32 H23 lo23 (kq + 7) (nq + 306) 205 [(24, .int (zI 0)), (23, .int (zI (-30000))), (22, .int (zI 0)), (21, .int (zI (wsC co (c : Int) 1 - wsC co (c : Int) (-1) - (2 * (co 2 (c : Int) + 1))))), (20, .int (zI (wsC co (c : Int) (-1)))), (19, .int (zI (wsC co (c : Int) 1))), (18, .int (zI (vdC co (c : Int)))), (17, .int (zI (co 6 (c : Int)))), (16, .int (zI (co 2 (c : Int)))), (15, .int (zI (co 1 (c : Int)))), (0, .ref (E 107 0)), (1, .ref x), (2, .int (zI t)), (3, .int (zI (co 0 0))), (4, .int (zI (co 0 1))), (5, .int (zI a5)), (6, .int (zI a6)), (7, .int (zI a7)), (8, .int (zI a8)), (9, .int (zI a9)), (10, .int (zI a10)), (11, .ref y), (12, .ref (y + 1)), (13, .ref (y + 2)), (14, .int (zI (c : Int)))] [.ref b0]
  refine v_iload X dL_law_205 207 rfl 8 rfl ?_
  refine v_muV X hM h_sb.1 (c_J4_appS l E b0 v_24 N_25 f_26 0 (0 + 1 + 1 + 1 + 1) (b0 + 2) (co 2 (c : Int)) ([] ++ [48 + (c : Int)] ++ [58] ++ [48 + co 1 (c : Int)] ++ [47]) (by omega) (by omega) (by omega) hT9 (by omega) (by omega)) kvJ4_append_bf812 kiJ4_append_bf812 kl_L_155 (q0 := 0) rfl rfl (As := [.int (zI (co 2 (c : Int)))]) rfl rfl (rm_law rfl (by omega) (by omega)) dL_law_207 210 rfl (k' := kq + 8) (n' := nq + 376) rfl rfl (by intro q hq; simp only [Fr, Fs, or_false, false_or] at hq ⊢; omega) ⟨h_sb, h_sa, hzl⟩ (fun rv H27 lo27 hM hF hpo => ?_)
  obtain ⟨v_28, N_29, f_30, rfl, hp9, hT8, hw_0, hw_1⟩ := hpo
  have hv8 : b0 + 1 ≤ v_28 := by omega
  replace hzl := Nat.le_trans hzl hF.1
  replace h_cm := h_cm.kept hF 1 rfl (by intro q q1 q2 q3; simp only [Fs, or_false] at q3; omega)
  replace h_co := h_co.kept hF 28 rfl (by intro q q1 q2 q3; simp only [Fs, or_false] at q3; omega)
  replace h_hw := h_hw.kept hF (by intro q q1 q2 q3; simp only [Fs, or_false] at q3; omega)
  replace h_w := h_w.kept hF (by intro q q1 q3; simp only [Fs, or_false] at q3; omega)
  replace h_sn := h_sn.kept hF 1 rfl (by intro q q1 q2 q3; simp only [Fs, or_false] at q3; omega)
  replace h_mt := h_mt.kept hF 1 rfl (by intro q q1 q2 q3; simp only [Fs, or_false] at q3; omega)
  replace h_sq := h_sq.kept hF 1 rfl (by intro q q1 q2 q3; simp only [Fs, or_false] at q3; omega)
  clear hp9 hT9 hv9
  have hv9 := hv8
  clear hv8
  have hT9 := hT8
  clear hT8
  have h_sb : PR E b0 [(b0, .inr (1, [.ref v_28, .int (zI 0), .int (zI 0), .int (zI (0 + 1 + 1 + 1 + 1 + 1))]))] H27 := hw_0
  have h_sa : PR E v_28 [(v_28, .inl (E 102 2, N_29, .inl (zA f_30)))] H27 := hw_1
  clear hw_0 hw_1
  show V p l e room_1 s m args below meth cd Q 32 H27 lo27 (kq + 8) (nq + 376) 210 [(24, .int (zI 0)), (23, .int (zI (-30000))), (22, .int (zI 0)), (21, .int (zI (wsC co (c : Int) 1 - wsC co (c : Int) (-1) - (2 * (co 2 (c : Int) + 1))))), (20, .int (zI (wsC co (c : Int) (-1)))), (19, .int (zI (wsC co (c : Int) 1))), (18, .int (zI (vdC co (c : Int)))), (17, .int (zI (co 6 (c : Int)))), (16, .int (zI (co 2 (c : Int)))), (15, .int (zI (co 1 (c : Int)))), (0, .ref (E 107 0)), (1, .ref x), (2, .int (zI t)), (3, .int (zI (co 0 0))), (4, .int (zI (co 0 1))), (5, .int (zI a5)), (6, .int (zI a6)), (7, .int (zI a7)), (8, .int (zI a8)), (9, .int (zI a9)), (10, .int (zI a10)), (11, .ref y), (12, .ref (y + 1)), (13, .ref (y + 2)), (14, .int (zI (c : Int)))] [.ref b0]
  suffices hJ210 : ∀ q_31 : Nat, q_31 < 13 → kwT q_31 = [phT co (c : Int)] → V p l e room_1 s m args below meth cd Q 32 H27 lo27 (kq + 8) (nq + 376) 236 [(24, .int (zI 0)), (23, .int (zI (-30000))), (22, .int (zI 0)), (21, .int (zI (wsC co (c : Int) 1 - wsC co (c : Int) (-1) - (2 * (co 2 (c : Int) + 1))))), (20, .int (zI (wsC co (c : Int) (-1)))), (19, .int (zI (wsC co (c : Int) 1))), (18, .int (zI (vdC co (c : Int)))), (17, .int (zI (co 6 (c : Int)))), (16, .int (zI (co 2 (c : Int)))), (15, .int (zI (co 1 (c : Int)))), (0, .ref (E 107 0)), (1, .ref x), (2, .int (zI t)), (3, .int (zI (co 0 0))), (4, .int (zI (co 0 1))), (5, .int (zI a5)), (6, .int (zI a6)), (7, .int (zI a7)), (8, .int (zI a8)), (9, .int (zI a9)), (10, .int (zI a10)), (11, .ref y), (12, .ref (y + 1)), (13, .ref (y + 2)), (14, .int (zI (c : Int)))] [.ref (E 105 (35 + q_31)), .ref b0] by
    refine v_iload X dL_law_210 212 rfl 6 rfl ?_
    refine v_sipush X dL_law_212 215 rfl rfl ?_
    refine v_icmp_ne X (by omega) (by omega) dL_law_215 218 223 rfl (by decide) (fun c_32 => ?_) (fun c_32 => ?_)
    · skip
      refine v_iload X dL_law_223 225 rfl 6 rfl ?_
      refine v_iconst X dL_law_225 226 rfl ?_
      refine v_icmp_ne X (by omega) (by omega) dL_law_226 229 234 rfl (by decide) (fun c_33 => ?_) (fun c_33 => ?_)
      · skip
        refine v_kws X hM.C (35 + 4) rfl rfl rfl dL_law_234 236 rfl ?_
        exact hJ210 4 (by decide) (by rw [vd_n (by omega) (by omega)]; decide +kernel)
      · skip
        refine v_kws X hM.C (35 + 3) rfl rfl rfl dL_law_229 231 rfl ?_
        refine v_goto X dL_law_231 236 (by decide) ?_
        exact hJ210 3 (by decide) (by rw [vd_g (by omega)]; decide +kernel)
    · skip
      refine v_kws X hM.C (35 + 2) rfl rfl rfl dL_law_218 220 rfl ?_
      refine v_goto X dL_law_220 236 (by decide) ?_
      exact hJ210 2 (by decide) (by rw [vd_o (by omega)]; decide +kernel)
  intro q_31 hq_31 hkq_31
  refine v_muV X hM h_sb.1 (c_J4_appK1 l E b0 v_28 N_29 f_30 0 (0 + 1 + 1 + 1 + 1 + 1) (b0 + 2) q_31 (phT co (c : Int)) ([] ++ [48 + (c : Int)] ++ [58] ++ [48 + co 1 (c : Int)] ++ [47] ++ [48 + co 2 (c : Int)]) hq_31 hkq_31 (by omega) hT9 (by omega) (by omega)) kvJ4_append_15ec4 kiJ4_append_15ec4 kl_L_161 (q0 := 0) rfl rfl (As := [.ref (E 105 (35 + q_31))]) rfl rfl (rm_law rfl (by omega) (by omega)) dL_law_236 239 rfl (k' := kq + 9) (n' := nq + 446) rfl rfl (by intro q hq; simp only [Fr, Fs, or_false, false_or] at hq ⊢; omega) ⟨h_sb, h_sa, hzl⟩ (fun rv H34 lo34 hM hF hpo => ?_)
  obtain ⟨v_35, N_36, f_37, rfl, hp9, hT8, hw_0, hw_1⟩ := hpo
  have hv8 : b0 + 1 ≤ v_35 := by omega
  replace hzl := Nat.le_trans hzl hF.1
  replace h_cm := h_cm.kept hF 1 rfl (by intro q q1 q2 q3; simp only [Fs, or_false] at q3; omega)
  replace h_co := h_co.kept hF 28 rfl (by intro q q1 q2 q3; simp only [Fs, or_false] at q3; omega)
  replace h_hw := h_hw.kept hF (by intro q q1 q2 q3; simp only [Fs, or_false] at q3; omega)
  replace h_w := h_w.kept hF (by intro q q1 q3; simp only [Fs, or_false] at q3; omega)
  replace h_sn := h_sn.kept hF 1 rfl (by intro q q1 q2 q3; simp only [Fs, or_false] at q3; omega)
  replace h_mt := h_mt.kept hF 1 rfl (by intro q q1 q2 q3; simp only [Fs, or_false] at q3; omega)
  replace h_sq := h_sq.kept hF 1 rfl (by intro q q1 q2 q3; simp only [Fs, or_false] at q3; omega)
  clear hp9 hT9 hv9
  have hv9 := hv8
  clear hv8
  have hT9 := hT8
  clear hT8
  have h_sb : PR E b0 [(b0, .inr (1, [.ref v_35, .int (zI 0), .int (zI 0), .int (zI (0 + 1 + 1 + 1 + 1 + 1 + 1))]))] H34 := hw_0
  have h_sa : PR E v_35 [(v_35, .inl (E 102 2, N_36, .inl (zA f_37)))] H34 := hw_1
  clear hw_0 hw_1
  show V p l e room_1 s m args below meth cd Q 32 H34 lo34 (kq + 9) (nq + 446) 239 [(24, .int (zI 0)), (23, .int (zI (-30000))), (22, .int (zI 0)), (21, .int (zI (wsC co (c : Int) 1 - wsC co (c : Int) (-1) - (2 * (co 2 (c : Int) + 1))))), (20, .int (zI (wsC co (c : Int) (-1)))), (19, .int (zI (wsC co (c : Int) 1))), (18, .int (zI (vdC co (c : Int)))), (17, .int (zI (co 6 (c : Int)))), (16, .int (zI (co 2 (c : Int)))), (15, .int (zI (co 1 (c : Int)))), (0, .ref (E 107 0)), (1, .ref x), (2, .int (zI t)), (3, .int (zI (co 0 0))), (4, .int (zI (co 0 1))), (5, .int (zI a5)), (6, .int (zI a6)), (7, .int (zI a7)), (8, .int (zI a8)), (9, .int (zI a9)), (10, .int (zI a10)), (11, .ref y), (12, .ref (y + 1)), (13, .ref (y + 2)), (14, .int (zI (c : Int)))] [.ref b0]
  suffices hJ239 : ∀ q_38 : Nat, q_38 < 13 → kwT q_38 = clT co (c : Int) → V p l e room_1 s m args below meth cd Q 32 H34 lo34 (kq + 9) (nq + 446) 255 [(24, .int (zI 0)), (23, .int (zI (-30000))), (22, .int (zI 0)), (21, .int (zI (wsC co (c : Int) 1 - wsC co (c : Int) (-1) - (2 * (co 2 (c : Int) + 1))))), (20, .int (zI (wsC co (c : Int) (-1)))), (19, .int (zI (wsC co (c : Int) 1))), (18, .int (zI (vdC co (c : Int)))), (17, .int (zI (co 6 (c : Int)))), (16, .int (zI (co 2 (c : Int)))), (15, .int (zI (co 1 (c : Int)))), (0, .ref (E 107 0)), (1, .ref x), (2, .int (zI t)), (3, .int (zI (co 0 0))), (4, .int (zI (co 0 1))), (5, .int (zI a5)), (6, .int (zI a6)), (7, .int (zI a7)), (8, .int (zI a8)), (9, .int (zI a9)), (10, .int (zI a10)), (11, .ref y), (12, .ref (y + 1)), (13, .ref (y + 2)), (14, .int (zI (c : Int)))] [.ref (E 105 (35 + q_38)), .ref b0] by
    refine v_aload_n X dL_law_239 240 rfl 11 rfl ?_
    refine v_iload X dL_law_240 242 rfl 24 rfl ?_
    refine v_rdV X hM.C (PW.app h_cm.1 h_co.1) (c_X9_isClosed l E x co 0 (-1) (-1) 0 (c : Int) hO (by omega) (by omega)) kvX9_isClosed kiX9_isClosed kl_L_172 rfl rfl (As := [.int (zI (c : Int))]) rfl rfl (rm_law0 rfl (by omega) (by omega)) dL_law_242 245 rfl ?_
    show V p l e room_1 s m args below meth cd Q 32 H34 lo34 (kq + 9) (nq + 446) 245 [(24, .int (zI 0)), (23, .int (zI (-30000))), (22, .int (zI 0)), (21, .int (zI (wsC co (c : Int) 1 - wsC co (c : Int) (-1) - (2 * (co 2 (c : Int) + 1))))), (20, .int (zI (wsC co (c : Int) (-1)))), (19, .int (zI (wsC co (c : Int) 1))), (18, .int (zI (vdC co (c : Int)))), (17, .int (zI (co 6 (c : Int)))), (16, .int (zI (co 2 (c : Int)))), (15, .int (zI (co 1 (c : Int)))), (0, .ref (E 107 0)), (1, .ref x), (2, .int (zI t)), (3, .int (zI (co 0 0))), (4, .int (zI (co 0 1))), (5, .int (zI a5)), (6, .int (zI a6)), (7, .int (zI a7)), (8, .int (zI a8)), (9, .int (zI a9)), (10, .int (zI a10)), (11, .ref y), (12, .ref (y + 1)), (13, .ref (y + 2)), (14, .int (zI (c : Int)))] [.int (zI (bz (co 3 (c : Int) = 2))), .ref b0]
    refine v_bif_eq X dL_law_245 248 253 rfl (by decide) (fun c_39 => ?_) (fun c_39 => ?_)
    · skip
      refine v_kws X hM.C (35 + 6) rfl rfl rfl dL_law_253 255 rfl ?_
      exact hJ239 6 (by decide) (by unfold clT; rw [if_neg (by omega)]; decide +kernel)
    · skip
      refine v_kws X hM.C (35 + 5) rfl rfl rfl dL_law_248 250 rfl ?_
      refine v_goto X dL_law_250 255 (by decide) ?_
      exact hJ239 5 (by decide) (by unfold clT; rw [if_pos (by omega)]; decide +kernel)
  intro q_38 hq_38 hkq_38
  refine v_muV X hM h_sb.1 (c_J4_appKT l E b0 v_35 N_36 f_37 0 (0 + 1 + 1 + 1 + 1 + 1 + 1) (b0 + 2) q_38 (clT co (c : Int)) ([] ++ [48 + (c : Int)] ++ [58] ++ [48 + co 1 (c : Int)] ++ [47] ++ [48 + co 2 (c : Int)] ++ [phT co (c : Int)]) hq_38 hkq_38 (by have := clT_len co (c : Int); omega) hT9 (by omega) (by omega)) kvJ4_append_15ec4 kiJ4_append_15ec4 kl_L_161 (q0 := 0) rfl rfl (As := [.ref (E 105 (35 + q_38))]) rfl rfl (rm_law rfl (by omega) (by omega)) dL_law_255 258 rfl (k' := kq + 10) (n' := nq + 516) rfl rfl (by intro q hq; simp only [Fr, Fs, or_false, false_or] at hq ⊢; omega) ⟨h_sb, h_sa, hzl⟩ (fun rv H40 lo40 hM hF hpo => ?_)
  obtain ⟨v_41, N_42, f_43, rfl, hp9, hT8, hw_0, hw_1⟩ := hpo
  have hv8 : b0 + 1 ≤ v_41 := by omega
  replace hzl := Nat.le_trans hzl hF.1
  replace h_cm := h_cm.kept hF 1 rfl (by intro q q1 q2 q3; simp only [Fs, or_false] at q3; omega)
  replace h_co := h_co.kept hF 28 rfl (by intro q q1 q2 q3; simp only [Fs, or_false] at q3; omega)
  replace h_hw := h_hw.kept hF (by intro q q1 q2 q3; simp only [Fs, or_false] at q3; omega)
  replace h_w := h_w.kept hF (by intro q q1 q3; simp only [Fs, or_false] at q3; omega)
  replace h_sn := h_sn.kept hF 1 rfl (by intro q q1 q2 q3; simp only [Fs, or_false] at q3; omega)
  replace h_mt := h_mt.kept hF 1 rfl (by intro q q1 q2 q3; simp only [Fs, or_false] at q3; omega)
  replace h_sq := h_sq.kept hF 1 rfl (by intro q q1 q2 q3; simp only [Fs, or_false] at q3; omega)
  clear hp9 hT9 hv9
  have hv9 := hv8
  clear hv8
  have hT9 := hT8
  clear hT8
  have h_sb : PR E b0 [(b0, .inr (1, [.ref v_41, .int (zI 0), .int (zI 0), .int (zI (0 + 1 + 1 + 1 + 1 + 1 + 1 + ((clT co (c : Int)).length : Int)))]))] H40 := hw_0
  have h_sa : PR E v_41 [(v_41, .inl (E 102 2, N_42, .inl (zA f_43)))] H40 := hw_1
  clear hw_0 hw_1
  show V p l e room_1 s m args below meth cd Q 32 H40 lo40 (kq + 10) (nq + 516) 258 [(24, .int (zI 0)), (23, .int (zI (-30000))), (22, .int (zI 0)), (21, .int (zI (wsC co (c : Int) 1 - wsC co (c : Int) (-1) - (2 * (co 2 (c : Int) + 1))))), (20, .int (zI (wsC co (c : Int) (-1)))), (19, .int (zI (wsC co (c : Int) 1))), (18, .int (zI (vdC co (c : Int)))), (17, .int (zI (co 6 (c : Int)))), (16, .int (zI (co 2 (c : Int)))), (15, .int (zI (co 1 (c : Int)))), (0, .ref (E 107 0)), (1, .ref x), (2, .int (zI t)), (3, .int (zI (co 0 0))), (4, .int (zI (co 0 1))), (5, .int (zI a5)), (6, .int (zI a6)), (7, .int (zI a7)), (8, .int (zI a8)), (9, .int (zI a9)), (10, .int (zI a10)), (11, .ref y), (12, .ref (y + 1)), (13, .ref (y + 2)), (14, .int (zI (c : Int)))] [.ref b0]
  obtain ⟨w9, hw9⟩ : ∃ w9 : Nat, (0 + 1 + 1 + 1 + 1 + 1 + 1 + ((clT co (c : Int)).length : Int) : Int) = (w9 : Int) := ⟨Int.toNat (0 + 1 + 1 + 1 + 1 + 1 + 1 + ((clT co (c : Int)).length : Int)), (Int.toNat_of_nonneg (by have := hT9.n0; omega)).symm⟩
  rw [hw9] at h_sb hT9
  obtain ⟨b, hz⟩ : ∃ o9 : Nat, H40.size = o9 := ⟨_, rfl⟩
  have hvb_44 : v < b := by have := h_w.lt; omega
  have hyb_45 : y + 2 + 1 ≤ b := by have := (h_sq.1 0 _ rfl).lt; omega
  refine v_muV X hM h_sb.1 (c_J4_toString l E b0 v_41 N_42 f_43 0 w9 b (by have := hT9.2.1; omega) (by have := hT9.1; omega) hT9.2.2.1) kvJ4_toString_0e30d kiJ4_toString_0e30d kl_L_179 (q0 := 0) rfl rfl (As := []) rfl rfl (rm_law rfl (by omega) (by omega)) dL_law_258 261 rfl (k' := kq + 12) (n' := nq + 590) rfl rfl (fun q hq => hq.elim) ⟨h_sb, h_sa, hz⟩ (fun rv H46 lo46 hM hF hpo => ?_)
  obtain ⟨f_47, rfl, hp8, hp9, hw_0, hz9⟩ := hpo
  clear h_sb
  clear h_sa
  replace hzl := Nat.le_trans hzl hF.1
  replace h_cm := h_cm.kept hF 1 rfl (fun q _ _ h => h.elim)
  replace h_co := h_co.kept hF 28 rfl (fun q _ _ h => h.elim)
  replace h_hw := h_hw.kept hF (fun q _ _ h => h.elim)
  replace h_w := h_w.kept hF (fun q _ h => h.elim)
  replace h_sn := h_sn.kept hF 1 rfl (fun q _ _ h => h.elim)
  replace h_mt := h_mt.kept hF 1 rfl (fun q _ _ h => h.elim)
  replace h_sq := h_sq.kept hF 1 rfl (fun q _ _ h => h.elim)
  have h_ls : StrW E b ([] ++ [48 + (c : Int)] ++ [58] ++ [48 + co 1 (c : Int)] ++ [47] ++ [48 + co 2 (c : Int)] ++ [phT co (c : Int)] ++ clT co (c : Int)) H46 := ⟨(w9, f_47), ⟨⟨hT9.2.2.2.1, fun j hj => by rw [hT9.2.2.2.2 j hj]; exact congrArg some (hp8 (j : Int) ⟨by omega, by have := hT9.2.2.2.1; omega⟩).symm⟩, hp9, by have := hT9.2.1; have := hT9.1; dsimp only; omega⟩, hw_0⟩
  clear hp8 hp9 hw_0 hz hz9 hw9 hT9 hzl hv9
  show V p l e room_1 s m args below meth cd Q 32 H46 lo46 (kq + 12) (nq + 590) 261 [(24, .int (zI 0)), (23, .int (zI (-30000))), (22, .int (zI 0)), (21, .int (zI (wsC co (c : Int) 1 - wsC co (c : Int) (-1) - (2 * (co 2 (c : Int) + 1))))), (20, .int (zI (wsC co (c : Int) (-1)))), (19, .int (zI (wsC co (c : Int) 1))), (18, .int (zI (vdC co (c : Int)))), (17, .int (zI (co 6 (c : Int)))), (16, .int (zI (co 2 (c : Int)))), (15, .int (zI (co 1 (c : Int)))), (0, .ref (E 107 0)), (1, .ref x), (2, .int (zI t)), (3, .int (zI (co 0 0))), (4, .int (zI (co 0 1))), (5, .int (zI a5)), (6, .int (zI a6)), (7, .int (zI a7)), (8, .int (zI a8)), (9, .int (zI a9)), (10, .int (zI a10)), (11, .ref y), (12, .ref (y + 1)), (13, .ref (y + 2)), (14, .int (zI (c : Int)))] [.ref b]
  refine v_astore X dL_law_261 263 rfl (by decide) (L' := [(25, .ref b), (24, .int (zI 0)), (23, .int (zI (-30000))), (22, .int (zI 0)), (21, .int (zI (wsC co (c : Int) 1 - wsC co (c : Int) (-1) - (2 * (co 2 (c : Int) + 1))))), (20, .int (zI (wsC co (c : Int) (-1)))), (19, .int (zI (wsC co (c : Int) 1))), (18, .int (zI (vdC co (c : Int)))), (17, .int (zI (co 6 (c : Int)))), (16, .int (zI (co 2 (c : Int)))), (15, .int (zI (co 1 (c : Int)))), (0, .ref (E 107 0)), (1, .ref x), (2, .int (zI t)), (3, .int (zI (co 0 0))), (4, .int (zI (co 0 1))), (5, .int (zI a5)), (6, .int (zI a6)), (7, .int (zI a7)), (8, .int (zI a8)), (9, .int (zI a9)), (10, .int (zI a10)), (11, .ref y), (12, .ref (y + 1)), (13, .ref (y + 2)), (14, .int (zI (c : Int)))]) rfl ?_
  refine v_widen (k' := kq + 20) (n' := nq + 700) (by omega) (by omega) ?_
  refine v_locals [11, 12, 13, 14, 15, 16, 17, 18, 19, 20, 21, 22, 23, 24, 25, 10, 9, 8, 7, 6, 5, 4, 3, 2, 1, 0] (L' := [(0, .ref (E 107 0)), (1, .ref x), (2, .int (zI t)), (3, .int (zI (co 0 0))), (4, .int (zI (co 0 1))), (5, .int (zI a5)), (6, .int (zI a6)), (7, .int (zI a7)), (8, .int (zI a8)), (9, .int (zI a9)), (10, .int (zI a10)), (11, .ref y), (12, .ref (y + 1)), (13, .ref (y + 2)), (14, .int (zI (c : Int))), (15, .int (zI (co 1 (c : Int)))), (16, .int (zI (co 2 (c : Int)))), (17, .int (zI (co 6 (c : Int)))), (18, .int (zI (vdC co (c : Int)))), (19, .int (zI (wsC co (c : Int) 1))), (20, .int (zI (wsC co (c : Int) (-1)))), (21, .int (zI (wsC co (c : Int) 1 - wsC co (c : Int) (-1) - (2 * (co 2 (c : Int) + 1))))), (22, .int (zI 0)), (23, .int (zI (-30000))), (24, .int (zI 0)), (25, .ref b)]) rfl ?_
  refine V_L (L' := [(0, .ref (E 107 0)), (1, .ref x), (2, .int (zI t)), (3, .int (zI (co 0 0))), (4, .int (zI (co 0 1))), (5, .int (zI a5)), (6, .int (zI a6)), (7, .int (zI a7)), (8, .int (zI a8)), (9, .int (zI a9)), (10, .int (zI a10)), (11, .ref y), (12, .ref (y + 1)), (13, .ref (y + 2)), (14, .int (zI (c : Int))), (15, .int (zI (co 1 (c : Int)))), (16, .int (zI (co 2 (c : Int)))), (17, .int (zI (co 6 (c : Int)))), (18, .int (zI (vdC co (c : Int)))), (19, .int (zI (wsC co (c : Int) 1))), (20, .int (zI (wsC co (c : Int) (-1)))), (21, .int (zI (mgC co (c : Int)))), (22, .int (zI 0)), (23, .int (zI (-30000))), (24, .int (zI 0)), (25, .ref b)]) (LC rfl (LC rfl (LC rfl (LC rfl (LC rfl (LC rfl (LC rfl (LC rfl (LC rfl (LC rfl (LC rfl (LC rfl (LC rfl (LC rfl (LC rfl (LC rfl (LC rfl (LC rfl (LC rfl (LC rfl (LC rfl (LC (vz (by omega)) (LC rfl (LC rfl (LC rfl (LC rfl rfl)))))))))))))))))))))))))) ?_
  exact kk _ _ b (by omega) (by omega) hM h_cm h_co h_hw h_w h_sn h_mt h_sq (by rw [hdT_of (by omega)]; exact h_ls)
end LAWSEG
