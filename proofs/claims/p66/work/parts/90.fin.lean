theorem hr_te {co : Nat → Int → Int} (hO : OkC co) (ts : TsI co) {c : Int} (c0 : 0 ≤ c) (c1 : c < co 0 0) {w : Int} (w0 : 0 ≤ w) (w1 : w < 8) : 0 < co 9 (c * 8 + w) ↔ (hrT co c).testBit (Int.toNat w) = true := by
  rw [hrT_hrd hO ts c0 c1]
  show _ ↔ Int.toNat w < 8 ∧ 0 < co 9 (c * 8 + ((Int.toNat w : Nat) : Int))
  rw [Int.toNat_of_nonneg w0]
  exact ⟨fun h => ⟨by omega, h⟩, fun h => h.2⟩
theorem hvC_b {co : Nat → Int → Int} (hO : OkC co) (c : Int) : -30000 ≤ hvC co c ∧ hvC co c < 8 := by
  rw [← hvF_e hO]
  exact hv_b hO c _
theorem vd_1 {co : Nat → Int → Int} {k : Int} (h : co 3 k = 0 → co 4 k = 0) : vdC co k = 1 ↔ ¬ co 4 k = 0 := by
  unfold vdC
  split
  · exact ⟨fun q => by omega, fun q => absurd (h (by assumption)) q⟩
  · by_cases q : co 4 k = 0
    · rw [bz_f (by omega)]
      exact ⟨fun z => by omega, fun z => absurd q z⟩
    · rw [bz_t q]
      exact ⟨fun _ => q, fun _ => rfl⟩
theorem dp_of {co : Nat → Int → Int} (hO : OkC co) {k : Int} (k0 : 0 ≤ k) (k1 : k < co 0 0) (h3 : co 3 k = 0) : rkD co k < (dkM co (co 0 0).toNat : Int) ∧ dpC co (rkD co k) = k := by
  have h := da_inv co hO (fun _ => 0) k k0 k1 h3
  exact ⟨h.1, by rw [dp_in hO (fun _ => 0) (rkD_b co k).1 h.1]; exact h.2⟩
theorem fs_b (co : Nat → Int → Int) (c : Nat) : -30000 ≤ fsF co c ∧ fsF co c ≤ (c : Int) := by
  have b := ndF_b co c
  unfold fsF
  split <;> omega
theorem fs_ok {co : Nat → Int → Int} {c : Nat} (h : ¬ fsF co c = -30000) : 0 ≤ fsF co c ∧ fsF co c < (c : Int) ∧ co 3 (fsF co c) = 0 := by
  rcases nd_all co c with q | q
  · exact absurd (if_pos q.1) h
  · have e : fsF co c = ndF co c := if_neg (by omega)
    rw [e]
    exact ⟨q.1, q.2.1, q.2.2.1⟩
section LAWSEG
variable {p : Program} {l : Launch} {e : Env} {s : State} {m : MethodId} {args : Array Value} {below : List Frame} {meth : Method} {cd : Code} {Q : State → Prop} {E : Nat → Nat → Nat} {H : Heap} {lo : List Loc} {kq nq : Nat}
set_option maxHeartbeats 4000000 in
set_option maxRecDepth 20000 in
theorem sg_met (hl : l.stackTraces = false) (X : CF p m cd cL_law 32 s args RL) {x : Nat} {y : Nat} {v : Nat} {co : Nat → Int → Int} {T : List Int} {t : Int} {sF : Int → Int} {qF : Int → Int} {a5 : Int} {a6 : Int} {a7 : Int} {a8 : Int} {a9 : Int} {a10 : Int} {c : Nat} {b : Nat} (hx : s.heap.size ≤ x) (hD : InvD co) (hO : OkC co) (hU : UqI co) (hy : x + 334 ≤ y) (hvy : v < y ∨ y + 3 ≤ v) (hn0 : co 0 0 ≤ 9) (hn1 : 4 ≤ co 0 1 ∧ co 0 1 ≤ 7) (hyb : y + 3 ≤ b) (hvb : v < b) (hc : (c : Int) < co 0 0) (hM : MS E [] s H lo) (h_cm : PR E x [(x, .inr (11, [.ref (x + 1), .ref (x + 29), .ref (x + 57), .ref (x + 85), .ref (x + 311), .ref (x + 314), .ref (x + 319), .ref (x + 332), .int (zI 0), .int (zI (-1)), .int (zI (-1)), .int (zI 0)]))] H) (h_co : PR E (x + 1) (courtW E (x + 1) co) H) (h_hw : HW E x H) (h_w : RW E x v T H) (h_sn : PR E y [(y, .inl (E 102 0, 6, .inl (zA sF)))] H) (h_mt : PR E (y + 1) [(y + 1, .inl (E 102 0, 8, .inl (zA (nZ (meF co c)))))] H) (h_sq : PR E (y + 2) [(y + 2, .inl (E 102 0, 8, .inl (zA qF)))] H) (h_ls : StrW E b (lnT co (c : Int) (co 6 (c : Int)).toNat) H) (hk : kq + 0 ≤ 683119) (hn : nq + 0 ≤ 7044570) (kk : ∀ (H1 : Heap) (lo1 : List Loc), MS E [] s H1 lo1 → PR E x [(x, .inr (11, [.ref (x + 1), .ref (x + 29), .ref (x + 57), .ref (x + 85), .ref (x + 311), .ref (x + 314), .ref (x + 319), .ref (x + 332), .int (zI 0), .int (zI (-1)), .int (zI (-1)), .int (zI 0)]))] H1 → PR E (x + 1) (courtW E (x + 1) co) H1 → HW E x H1 → RW E x v T H1 → PR E y [(y, .inl (E 102 0, 6, .inl (zA sF)))] H1 → PR E (y + 1) [(y + 1, .inl (E 102 0, 8, .inl (zA (nZ (meF co (c + 1))))))] H1 → PR E (y + 2) [(y + 2, .inl (E 102 0, 8, .inl (zA qF)))] H1 → StrW E b (lnT co (c : Int) (co 6 (c : Int)).toNat) H1 → V p l e room_1 s m args below meth cd Q 32 H1 lo1 (kq + 0) (nq + 0) 832 [(0, .ref (E 107 0)), (1, .ref x), (2, .int (zI t)), (3, .int (zI (co 0 0))), (4, .int (zI (co 0 1))), (5, .int (zI a5)), (6, .int (zI a6)), (7, .int (zI a7)), (8, .int (zI a8)), (9, .int (zI a9)), (10, .int (zI a10)), (11, .ref y), (12, .ref (y + 1)), (13, .ref (y + 2)), (14, .int (zI (c : Int))), (15, .int (zI (co 1 (c : Int)))), (16, .int (zI (co 2 (c : Int)))), (17, .int (zI (co 6 (c : Int)))), (18, .int (zI (vdC co (c : Int)))), (19, .int (zI (wsC co (c : Int) 1))), (20, .int (zI (wsC co (c : Int) (-1)))), (21, .int (zI (mgC co (c : Int)))), (22, .int (zI ((hrT co (c : Int) : Nat) : Int))), (23, .int (zI (hvC co (c : Int)))), (24, .int (zI 0)), (25, .ref b)] []) : V p l e room_1 s m args below meth cd Q 32 H lo kq nq 762 [(0, .ref (E 107 0)), (1, .ref x), (2, .int (zI t)), (3, .int (zI (co 0 0))), (4, .int (zI (co 0 1))), (5, .int (zI a5)), (6, .int (zI a6)), (7, .int (zI a7)), (8, .int (zI a8)), (9, .int (zI a9)), (10, .int (zI a10)), (11, .ref y), (12, .ref (y + 1)), (13, .ref (y + 2)), (14, .int (zI (c : Int))), (15, .int (zI (co 1 (c : Int)))), (16, .int (zI (co 2 (c : Int)))), (17, .int (zI (co 6 (c : Int)))), (18, .int (zI (vdC co (c : Int)))), (19, .int (zI (wsC co (c : Int) 1))), (20, .int (zI (wsC co (c : Int) (-1)))), (21, .int (zI (mgC co (c : Int)))), (22, .int (zI ((hrT co (c : Int) : Nat) : Int))), (23, .int (zI (hvC co (c : Int)))), (24, .int (zI 0)), (25, .ref b)] [] := by
  have hvl := h_w.lt
  have hb0 := hO.b0
  have hbw := hO.bw
  refine v_iconst X dL_law_762 763 rfl ?_
  refine v_istore X dL_law_763 765 rfl (by decide) (L' := [(26, .int (zI 0)), (0, .ref (E 107 0)), (1, .ref x), (2, .int (zI t)), (3, .int (zI (co 0 0))), (4, .int (zI (co 0 1))), (5, .int (zI a5)), (6, .int (zI a6)), (7, .int (zI a7)), (8, .int (zI a8)), (9, .int (zI a9)), (10, .int (zI a10)), (11, .ref y), (12, .ref (y + 1)), (13, .ref (y + 2)), (14, .int (zI (c : Int))), (15, .int (zI (co 1 (c : Int)))), (16, .int (zI (co 2 (c : Int)))), (17, .int (zI (co 6 (c : Int)))), (18, .int (zI (vdC co (c : Int)))), (19, .int (zI (wsC co (c : Int) 1))), (20, .int (zI (wsC co (c : Int) (-1)))), (21, .int (zI (mgC co (c : Int)))), (22, .int (zI ((hrT co (c : Int) : Nat) : Int))), (23, .int (zI (hvC co (c : Int)))), (24, .int (zI 0)), (25, .ref b)]) rfl ?_
  refine V_L (L' := [(26, .int (zI 0)), (0, .ref (E 107 0)), (1, .ref x), (2, .int (zI t)), (3, .int (zI (co 0 0))), (4, .int (zI (co 0 1))), (5, .int (zI a5)), (6, .int (zI a6)), (7, .int (zI a7)), (8, .int (zI a8)), (9, .int (zI a9)), (10, .int (zI a10)), (11, .ref y), (12, .ref (y + 1)), (13, .ref (y + 2)), (14, .int (zI (c : Int))), (15, .int (zI (co 1 (c : Int)))), (16, .int (zI (co 2 (c : Int)))), (17, .int (zI (co 6 (c : Int)))), (18, .int (zI (vdC co (c : Int)))), (19, .int (zI (wsC co (c : Int) 1))), (20, .int (zI (wsC co (c : Int) (-1)))), (21, .int (zI (mgC co (c : Int)))), (22, .int (zI ((hrT co (c : Int) : Nat) : Int))), (23, .int (zI (hvC co (c : Int)))), (24, .int (zI 0)), (25, .ref b)]) (LC rfl (LC rfl (LC rfl (LC rfl (LC rfl (LC rfl (LC rfl (LC rfl (LC rfl (LC rfl (LC rfl (LC rfl (LC rfl (LC rfl (LC rfl (LC rfl (LC rfl (LC rfl (LC rfl (LC rfl (LC rfl (LC rfl (LC rfl (LC rfl (LC rfl (LC rfl (LC rfl rfl))))))))))))))))))))))))))) ?_
  refine up_loop ((co 0 1).toNat) (P := fun (i : Nat) => ∀ (H : Heap) (lo : List Loc), MS E [] s H lo → PR E x [(x, .inr (11, [.ref (x + 1), .ref (x + 29), .ref (x + 57), .ref (x + 85), .ref (x + 311), .ref (x + 314), .ref (x + 319), .ref (x + 332), .int (zI 0), .int (zI (-1)), .int (zI (-1)), .int (zI 0)]))] H → PR E (x + 1) (courtW E (x + 1) co) H → HW E x H → RW E x v T H → PR E y [(y, .inl (E 102 0, 6, .inl (zA sF)))] H → PR E (y + 1) [(y + 1, .inl (E 102 0, 8, .inl (zA (nZ (meP co c i)))))] H → PR E (y + 2) [(y + 2, .inl (E 102 0, 8, .inl (zA qF)))] H → StrW E b (lnT co (c : Int) (co 6 (c : Int)).toNat) H → V p l e room_1 s m args below meth cd Q 32 H lo kq nq 765 [(26, .int (zI (i : Int))), (0, .ref (E 107 0)), (1, .ref x), (2, .int (zI t)), (3, .int (zI (co 0 0))), (4, .int (zI (co 0 1))), (5, .int (zI a5)), (6, .int (zI a6)), (7, .int (zI a7)), (8, .int (zI a8)), (9, .int (zI a9)), (10, .int (zI a10)), (11, .ref y), (12, .ref (y + 1)), (13, .ref (y + 2)), (14, .int (zI (c : Int))), (15, .int (zI (co 1 (c : Int)))), (16, .int (zI (co 2 (c : Int)))), (17, .int (zI (co 6 (c : Int)))), (18, .int (zI (vdC co (c : Int)))), (19, .int (zI (wsC co (c : Int) 1))), (20, .int (zI (wsC co (c : Int) (-1)))), (21, .int (zI (mgC co (c : Int)))), (22, .int (zI ((hrT co (c : Int) : Nat) : Int))), (23, .int (zI (hvC co (c : Int)))), (24, .int (zI 0)), (25, .ref b)] []) (fun i hi_i ih_i H1 lo1 hM h_cm h_co h_hw h_w h_sn h_mt h_sq h_ls => ?_) _ _ hM h_cm h_co h_hw h_w h_sn (PR.to h_mt (by rw [meP_0])) h_sq h_ls
  refine v_iload X dL_law_765 767 rfl 0 rfl ?_
  refine v_iload X dL_law_767 769 rfl 5 rfl ?_
  have hb_3 := hO.bw
  refine v_icmp_ge X (by omega) (by omega) dL_law_769 772 832 rfl (by decide) (fun c_2 => ?_) (fun c_2 => ?_)
  · skip
    refine v_widen (k' := kq + 0) (n' := nq + 0) (by omega) (by omega) ?_
    refine v_locals [1, 2, 3, 4, 5, 6, 7, 8, 9, 10, 11, 12, 13, 14, 15, 16, 17, 18, 19, 20, 21, 22, 23, 24, 25, 26] (L' := [(0, .ref (E 107 0)), (1, .ref x), (2, .int (zI t)), (3, .int (zI (co 0 0))), (4, .int (zI (co 0 1))), (5, .int (zI a5)), (6, .int (zI a6)), (7, .int (zI a7)), (8, .int (zI a8)), (9, .int (zI a9)), (10, .int (zI a10)), (11, .ref y), (12, .ref (y + 1)), (13, .ref (y + 2)), (14, .int (zI (c : Int))), (15, .int (zI (co 1 (c : Int)))), (16, .int (zI (co 2 (c : Int)))), (17, .int (zI (co 6 (c : Int)))), (18, .int (zI (vdC co (c : Int)))), (19, .int (zI (wsC co (c : Int) 1))), (20, .int (zI (wsC co (c : Int) (-1)))), (21, .int (zI (mgC co (c : Int)))), (22, .int (zI ((hrT co (c : Int) : Nat) : Int))), (23, .int (zI (hvC co (c : Int)))), (24, .int (zI 0)), (25, .ref b)]) rfl ?_
    exact kk _ _ hM h_cm h_co h_hw h_w h_sn (PR.to h_mt (by rw [show i = (co 0 1).toNat by omega, meP_e])) h_sq h_ls
  · skip
    refine v_aload X dL_law_772 774 rfl 13 rfl ?_
    refine v_iload X dL_law_774 776 rfl 0 rfl ?_
    refine v_dup2 X dL_law_776 777 rfl rfl rfl ?_
    refine v_iald X hM.C h_mt.1 0 rfl (by omega) (by omega) (by omega) dL_law_777 778 rfl ?_
    show V p l e room_1 s m args below meth cd Q 32 H1 lo1 kq nq 778 [(26, .int (zI (i : Int))), (0, .ref (E 107 0)), (1, .ref x), (2, .int (zI t)), (3, .int (zI (co 0 0))), (4, .int (zI (co 0 1))), (5, .int (zI a5)), (6, .int (zI a6)), (7, .int (zI a7)), (8, .int (zI a8)), (9, .int (zI a9)), (10, .int (zI a10)), (11, .ref y), (12, .ref (y + 1)), (13, .ref (y + 2)), (14, .int (zI (c : Int))), (15, .int (zI (co 1 (c : Int)))), (16, .int (zI (co 2 (c : Int)))), (17, .int (zI (co 6 (c : Int)))), (18, .int (zI (vdC co (c : Int)))), (19, .int (zI (wsC co (c : Int) 1))), (20, .int (zI (wsC co (c : Int) (-1)))), (21, .int (zI (mgC co (c : Int)))), (22, .int (zI ((hrT co (c : Int) : Nat) : Int))), (23, .int (zI (hvC co (c : Int)))), (24, .int (zI 0)), (25, .ref b)] [.int (zI ((meP co c i (i : Int) : Nat) : Int)), .int (zI (i : Int)), .ref (y + 1)]
    suffices hJ778 : ∀ z9 : Int, z9 = ((if (hrT co (c : Int)).testBit (Int.toNat (i : Int)) = true then hrT co (c : Int) else 0 : Nat) : Int) → V p l e room_1 s m args below meth cd Q 32 H1 lo1 kq nq 795 [(26, .int (zI (i : Int))), (0, .ref (E 107 0)), (1, .ref x), (2, .int (zI t)), (3, .int (zI (co 0 0))), (4, .int (zI (co 0 1))), (5, .int (zI a5)), (6, .int (zI a6)), (7, .int (zI a7)), (8, .int (zI a8)), (9, .int (zI a9)), (10, .int (zI a10)), (11, .ref y), (12, .ref (y + 1)), (13, .ref (y + 2)), (14, .int (zI (c : Int))), (15, .int (zI (co 1 (c : Int)))), (16, .int (zI (co 2 (c : Int)))), (17, .int (zI (co 6 (c : Int)))), (18, .int (zI (vdC co (c : Int)))), (19, .int (zI (wsC co (c : Int) 1))), (20, .int (zI (wsC co (c : Int) (-1)))), (21, .int (zI (mgC co (c : Int)))), (22, .int (zI ((hrT co (c : Int) : Nat) : Int))), (23, .int (zI (hvC co (c : Int)))), (24, .int (zI 0)), (25, .ref b)] [.int (zI z9), .int (zI ((meP co c i (i : Int) : Nat) : Int)), .int (zI (i : Int)), .ref (y + 1)] by
      refine v_iload X dL_law_778 780 rfl 23 rfl ?_
      refine v_iload X dL_law_780 782 rfl 0 rfl ?_
      refine v_ishr8 (a := hrT co (c : Int)) X (hrS_lt hO _ _) (by omega) (by omega) dL_law_782 783 rfl ?_
      refine v_iconst X dL_law_783 784 rfl ?_
      refine v_iand8 (a := (hrT co (c : Int)) >>> Int.toNat (i : Int)) (b := 1) X (shr_lt (hrS_lt hO _ _)) (by decide) dL_law_784 785 rfl ?_
      have hand_4 : (((hrT co (c : Int)) >>> Int.toNat (i : Int)) &&& 1) ≤ 1 := Nat.and_le_right
      refine v_iconst X dL_law_785 786 rfl ?_
      refine v_icmp_ne X (by omega) (by omega) dL_law_786 789 794 rfl (by decide) (fun c_5 => ?_) (fun c_5 => ?_)
      · skip
        refine v_iconst X dL_law_794 795 rfl ?_
        exact hJ778 _ (by rw [if_neg (fun q9 => c_5 (hr_shift.mpr q9))]; rfl)
      · skip
        refine v_iload X dL_law_789 791 rfl 23 rfl ?_
        refine v_goto X dL_law_791 795 (by decide) ?_
        exact hJ778 _ (by rw [if_pos (hr_shift.mp c_5)])
    intro z9 hz9
    subst hz9
    refine v_ior8 (a := meP co c i (i : Int)) (b := if (hrT co (c : Int)).testBit (Int.toNat (i : Int)) = true then hrT co (c : Int) else 0) X (meP_lt hO _ _ _) (by split; exact hrS_lt hO _ _; decide) dL_law_795 796 rfl ?_
    refine v_iast X hM h_mt 0 rfl (by omega) (by omega) (by omega) (Or.inr (by omega)) dL_law_796 797 rfl (ws' := [(y + 1, .inl (E 102 0, 8, .inl (zA (updZ (nZ (meP co c i)) (i : Int) (((meP co c i (i : Int)) ||| (if (hrT co (c : Int)).testBit (Int.toNat (i : Int)) = true then hrT co (c : Int) else 0) : Nat) : Int)))))]) rfl (fun H6 lo6 hzz hM hF h_mt => ?_)
    clear hzz
    replace h_cm := h_cm.kept hF 1 rfl (by intro q q1 q2 q3; simp only [Fs, or_false] at q3; omega)
    replace h_co := h_co.kept hF 28 rfl (by intro q q1 q2 q3; simp only [Fs, or_false] at q3; omega)
    replace h_hw := h_hw.kept hF (by intro q q1 q2 q3; simp only [Fs, or_false] at q3; omega)
    replace h_w := h_w.kept hF (by intro q q1 q3; simp only [Fs, or_false] at q3; omega)
    replace h_sn := h_sn.kept hF 1 rfl (by intro q q1 q2 q3; simp only [Fs, or_false] at q3; omega)
    replace h_sq := h_sq.kept hF 1 rfl (by intro q q1 q2 q3; simp only [Fs, or_false] at q3; omega)
    replace h_ls := h_ls.kept hF (by intro q q1 q2 q3; simp only [Fs, or_false] at q3; omega)
    refine v_aload_n X dL_law_797 798 rfl 2 rfl ?_
    refine v_iload X dL_law_798 800 rfl 15 rfl ?_
    refine v_iload X dL_law_800 802 rfl 0 rfl ?_
    have hb_7 := hO.b0
    refine v_rdV X hM.C (PW.app h_cm.1 h_co.1) (c_X9_hasTestified l E x co 0 (-1) (-1) 0 (c : Int) (i : Int) hO (by omega) (by omega) (by omega) (by omega)) kvX9_hasTestified kiX9_hasTestified kl_L_209 rfl rfl (As := [.int (zI (c : Int)), .int (zI (i : Int))]) rfl rfl (rm_law0 rfl (by omega) (by omega)) dL_law_802 805 rfl ?_
    show V p l e room_1 s m args below meth cd Q 32 H6 lo6 kq nq 805 [(26, .int (zI (i : Int))), (0, .ref (E 107 0)), (1, .ref x), (2, .int (zI t)), (3, .int (zI (co 0 0))), (4, .int (zI (co 0 1))), (5, .int (zI a5)), (6, .int (zI a6)), (7, .int (zI a7)), (8, .int (zI a8)), (9, .int (zI a9)), (10, .int (zI a10)), (11, .ref y), (12, .ref (y + 1)), (13, .ref (y + 2)), (14, .int (zI (c : Int))), (15, .int (zI (co 1 (c : Int)))), (16, .int (zI (co 2 (c : Int)))), (17, .int (zI (co 6 (c : Int)))), (18, .int (zI (vdC co (c : Int)))), (19, .int (zI (wsC co (c : Int) 1))), (20, .int (zI (wsC co (c : Int) (-1)))), (21, .int (zI (mgC co (c : Int)))), (22, .int (zI ((hrT co (c : Int) : Nat) : Int))), (23, .int (zI (hvC co (c : Int)))), (24, .int (zI 0)), (25, .ref b)] [.int (zI (bz (0 < co 9 ((c : Int) * 8 + (i : Int)))))]
    suffices hJ805 : ∀ z9 : Int, z9 = (bz ((hrT co (c : Int)).testBit (Int.toNat (i : Int)) = true)) → V p l e room_1 s m args below meth cd Q 32 H6 lo6 kq nq 821 [(26, .int (zI (i : Int))), (0, .ref (E 107 0)), (1, .ref x), (2, .int (zI t)), (3, .int (zI (co 0 0))), (4, .int (zI (co 0 1))), (5, .int (zI a5)), (6, .int (zI a6)), (7, .int (zI a7)), (8, .int (zI a8)), (9, .int (zI a9)), (10, .int (zI a10)), (11, .ref y), (12, .ref (y + 1)), (13, .ref (y + 2)), (14, .int (zI (c : Int))), (15, .int (zI (co 1 (c : Int)))), (16, .int (zI (co 2 (c : Int)))), (17, .int (zI (co 6 (c : Int)))), (18, .int (zI (vdC co (c : Int)))), (19, .int (zI (wsC co (c : Int) 1))), (20, .int (zI (wsC co (c : Int) (-1)))), (21, .int (zI (mgC co (c : Int)))), (22, .int (zI ((hrT co (c : Int) : Nat) : Int))), (23, .int (zI (hvC co (c : Int)))), (24, .int (zI 0)), (25, .ref b)] [.int (zI z9), .int (zI (bz (0 < co 9 ((c : Int) * 8 + (i : Int)))))] by
      refine v_iload X dL_law_805 807 rfl 23 rfl ?_
      refine v_iload X dL_law_807 809 rfl 0 rfl ?_
      refine v_ishr8 (a := hrT co (c : Int)) X (hrS_lt hO _ _) (by omega) (by omega) dL_law_809 810 rfl ?_
      refine v_iconst X dL_law_810 811 rfl ?_
      refine v_iand8 (a := (hrT co (c : Int)) >>> Int.toNat (i : Int)) (b := 1) X (shr_lt (hrS_lt hO _ _)) (by decide) dL_law_811 812 rfl ?_
      have hand_8 : (((hrT co (c : Int)) >>> Int.toNat (i : Int)) &&& 1) ≤ 1 := Nat.and_le_right
      refine v_iconst X dL_law_812 813 rfl ?_
      refine v_icmp_ne X (by omega) (by omega) dL_law_813 816 820 rfl (by decide) (fun c_9 => ?_) (fun c_9 => ?_)
      · skip
        refine v_iconst X dL_law_820 821 rfl ?_
        exact hJ805 _ (by exact (bz_f (fun q9 => c_9 (hr_shift.mpr q9))).symm)
      · skip
        refine v_iconst X dL_law_816 817 rfl ?_
        refine v_goto X dL_law_817 821 (by decide) ?_
        exact hJ805 _ (by exact (bz_t (hr_shift.mp c_9)).symm)
    intro z9 hz9
    subst hz9
    have hb_11 := hO.b9 ((c : Int) * 8 + (i : Int))
    refine v_icmp_eq X (by have := bz_rg (φ := 0 < co 9 ((c : Int) * 8 + (i : Int))); omega) (by have := bz_rg (φ := ((hrT co (c : Int)).testBit (Int.toNat (i : Int)) = true)); omega) dL_law_821 824 826 rfl (by decide) (fun c_10 => ?_) (fun c_10 => ?_)
    · skip
      refine v_iinc X dL_law_826 829 rfl 0 rfl (by decide) (L' := [(26, .int (zI ((i : Int) + 1))), (0, .ref (E 107 0)), (1, .ref x), (2, .int (zI t)), (3, .int (zI (co 0 0))), (4, .int (zI (co 0 1))), (5, .int (zI a5)), (6, .int (zI a6)), (7, .int (zI a7)), (8, .int (zI a8)), (9, .int (zI a9)), (10, .int (zI a10)), (11, .ref y), (12, .ref (y + 1)), (13, .ref (y + 2)), (14, .int (zI (c : Int))), (15, .int (zI (co 1 (c : Int)))), (16, .int (zI (co 2 (c : Int)))), (17, .int (zI (co 6 (c : Int)))), (18, .int (zI (vdC co (c : Int)))), (19, .int (zI (wsC co (c : Int) 1))), (20, .int (zI (wsC co (c : Int) (-1)))), (21, .int (zI (mgC co (c : Int)))), (22, .int (zI ((hrT co (c : Int) : Nat) : Int))), (23, .int (zI (hvC co (c : Int)))), (24, .int (zI 0)), (25, .ref b)]) rfl ?_
      refine v_goto X dL_law_829 765 (by decide) ?_
      have hb_12 := hO.b1 (c : Int)
      have hb_13 := hO.b2 (c : Int)
      have hb_14 := hO.b6 (c : Int)
      exact V_L (L' := [(26, .int (zI ((i + 1 : Nat) : Int))), (0, .ref (E 107 0)), (1, .ref x), (2, .int (zI t)), (3, .int (zI (co 0 0))), (4, .int (zI (co 0 1))), (5, .int (zI a5)), (6, .int (zI a6)), (7, .int (zI a7)), (8, .int (zI a8)), (9, .int (zI a9)), (10, .int (zI a10)), (11, .ref y), (12, .ref (y + 1)), (13, .ref (y + 2)), (14, .int (zI (c : Int))), (15, .int (zI (co 1 (c : Int)))), (16, .int (zI (co 2 (c : Int)))), (17, .int (zI (co 6 (c : Int)))), (18, .int (zI (vdC co (c : Int)))), (19, .int (zI (wsC co (c : Int) 1))), (20, .int (zI (wsC co (c : Int) (-1)))), (21, .int (zI (mgC co (c : Int)))), (22, .int (zI ((hrT co (c : Int) : Nat) : Int))), (23, .int (zI (hvC co (c : Int)))), (24, .int (zI 0)), (25, .ref b)]) (LC (vz (by omega)) (LC rfl (LC rfl (LC rfl (LC rfl (LC rfl (LC rfl (LC rfl (LC rfl (LC rfl (LC rfl (LC rfl (LC rfl (LC rfl (LC rfl (LC rfl (LC rfl (LC rfl (LC rfl (LC rfl (LC rfl (LC rfl (LC rfl (LC rfl (LC rfl (LC rfl (LC rfl rfl))))))))))))))))))))))))))) (ih_i (by omega) _ _ hM h_cm h_co h_hw h_w h_sn (PR.to h_mt (by rw [nZ_upd, meP_s co c i (by omega)])) h_sq h_ls)
    · skip
      exfalso; exact c_10 (bz_iff (hr_te hO hD.inv.ts (by omega) hc (by omega) (by omega)))
set_option maxHeartbeats 4000000 in
set_option maxRecDepth 20000 in
theorem sg_fin (hl : l.stackTraces = false) (X : CF p m cd cL_law 32 s args RL) {x : Nat} {y : Nat} {v : Nat} {co : Nat → Int → Int} {T : List Int} {t : Int} {mF : Int → Nat} {qF : Int → Int} {a8 : Int} {a10 : Int} {c : Nat} {b : Nat} (hx : s.heap.size ≤ x) (hD : InvD co) (hO : OkC co) (hU : UqI co) (hy : x + 334 ≤ y) (hvy : v < y ∨ y + 3 ≤ v) (hn0 : co 0 0 ≤ 9) (hn1 : 4 ≤ co 0 1 ∧ co 0 1 ≤ 7) (hyb : y + 3 ≤ b) (hvb : v < b) (hc : (c : Int) < co 0 0) (hM : MS E [] s H lo) (h_cm : PR E x [(x, .inr (11, [.ref (x + 1), .ref (x + 29), .ref (x + 57), .ref (x + 85), .ref (x + 311), .ref (x + 314), .ref (x + 319), .ref (x + 332), .int (zI 0), .int (zI (-1)), .int (zI (-1)), .int (zI 0)]))] H) (h_co : PR E (x + 1) (courtW E (x + 1) co) H) (h_hw : HW E x H) (h_w : RW E x v T H) (h_sn : PR E y [(y, .inl (E 102 0, 6, .inl (zA (snF co c))))] H) (h_mt : PR E (y + 1) [(y + 1, .inl (E 102 0, 8, .inl (zA (nZ mF))))] H) (h_sq : PR E (y + 2) [(y + 2, .inl (E 102 0, 8, .inl (zA qF)))] H) (h_ls : StrW E b (lnT co (c : Int) (co 6 (c : Int)).toNat) H) (hk : kq + 60 ≤ 683119) (hn : nq + 3000 ≤ 7044570) (kk : ∀ (H1 : Heap) (lo1 : List Loc) (v1 : Nat), (v1 < y ∨ y + 3 ≤ v1) → MS E [] s H1 lo1 → PR E x [(x, .inr (11, [.ref (x + 1), .ref (x + 29), .ref (x + 57), .ref (x + 85), .ref (x + 311), .ref (x + 314), .ref (x + 319), .ref (x + 332), .int (zI 0), .int (zI (-1)), .int (zI (-1)), .int (zI 0)]))] H1 → PR E (x + 1) (courtW E (x + 1) co) H1 → HW E x H1 → RW E x v1 (lnT co (c : Int) (co 6 (c : Int)).toNat) H1 → PR E y [(y, .inl (E 102 0, 6, .inl (zA (snF co (c + 1)))))] H1 → PR E (y + 1) [(y + 1, .inl (E 102 0, 8, .inl (zA (nZ mF))))] H1 → PR E (y + 2) [(y + 2, .inl (E 102 0, 8, .inl (zA qF)))] H1 → V p l e room_1 s m args below meth cd Q 32 H1 lo1 (kq + 60) (nq + 3000) 1083 [(0, .ref (E 107 0)), (1, .ref x), (2, .int (zI t)), (3, .int (zI (co 0 0))), (4, .int (zI (co 0 1))), (5, .int (zI (sumZ (fun j => bz (co 3 j = 0)) (c + 1)))), (6, .int (zI (sumZ (fun j => bz (co 3 j = 2)) (c + 1)))), (7, .int (zI (sumZ (fun j => bz (¬ co 4 j = 0)) (c + 1)))), (8, .int (zI a8)), (9, .int (zI (fsF co (c + 1)))), (10, .int (zI a10)), (11, .ref y), (12, .ref (y + 1)), (13, .ref (y + 2)), (14, .int (zI (c : Int)))] []) : V p l e room_1 s m args below meth cd Q 32 H lo kq nq 832 [(0, .ref (E 107 0)), (1, .ref x), (2, .int (zI t)), (3, .int (zI (co 0 0))), (4, .int (zI (co 0 1))), (5, .int (zI (sumZ (fun j => bz (co 3 j = 0)) c))), (6, .int (zI (sumZ (fun j => bz (co 3 j = 2)) c))), (7, .int (zI (sumZ (fun j => bz (¬ co 4 j = 0)) c))), (8, .int (zI a8)), (9, .int (zI (fsF co c))), (10, .int (zI a10)), (11, .ref y), (12, .ref (y + 1)), (13, .ref (y + 2)), (14, .int (zI (c : Int))), (15, .int (zI (co 1 (c : Int)))), (16, .int (zI (co 2 (c : Int)))), (17, .int (zI (co 6 (c : Int)))), (18, .int (zI (vdC co (c : Int)))), (19, .int (zI (wsC co (c : Int) 1))), (20, .int (zI (wsC co (c : Int) (-1)))), (21, .int (zI (mgC co (c : Int)))), (22, .int (zI ((hrT co (c : Int) : Nat) : Int))), (23, .int (zI (hvC co (c : Int)))), (24, .int (zI 0)), (25, .ref b)] [] := by
  have hvl := h_w.lt
  have hb0 := hO.b0
  have hbw := hO.bw
  have hvd := vd_b co (c : Int)
  have hws1 := wsC_b hO (c : Int) 1
  have hws2 := wsC_b hO (c : Int) (-1)
  have hmg := mgC_split hO hD.inv.ts (k := (c : Int)) (by omega) (by omega)
  have hmgb := mgC_b hO (c : Int)
  have hb3 := hO.b3 (c : Int)
  have hst := hD.inv.st.2 (c : Int) (by omega) hc
  have h1v := vd_1 (co := co) (k := (c : Int)) hst.1
  have hvb9 := hvC_b hO (c : Int)
  have hfb := fs_b co c
  have hrb := rkD_b co (c : Int)
  refine v_aload_n X dL_law_832 833 rfl 1 rfl ?_
  refine v_aload_n X dL_law_833 834 rfl 1 rfl ?_
  refine v_iload X dL_law_834 836 rfl 14 rfl ?_
  have hsz := (h_sq.1 0 _ rfl).lt
  have hb_1 := hO.b0
  refine v_muV X hM (h_cm.1) (p_formatCase l E x co (c : Int) (y + 3) v T hO (by omega) (by omega) (by omega)) kvX9_formatCase kiX9_formatCase kl_L_225 (q0 := 0) rfl rfl (As := [.int (zI (c : Int))]) rfl rfl (rm_law rfl (by omega) (by omega)) dL_law_836 839 rfl (k' := kq + 37) (n' := nq + 2590) rfl rfl (by intro q hq; simp only [Fr, Fs, or_false, false_or] at hq ⊢; omega) ⟨h_cm, h_co, h_w, (by omega)⟩ (fun rv H2 lo2 hM hF hpo => ?_)
  obtain ⟨v1_3, rfl, hp_f_4, hw_0⟩ := hpo
  have h_w : RW E x v1_3 (lnT co (c : Int) (co 6 (c : Int)).toNat) H2 := hw_0
  clear hw_0
  replace h_cm := h_cm.kept hF 1 rfl (by intro q q1 q2 q3; simp only [Fs, or_false] at q3; omega)
  replace h_co := h_co.kept hF 28 rfl (by intro q q1 q2 q3; simp only [Fs, or_false] at q3; omega)
  replace h_hw := h_hw.kept hF (by intro q q1 q2 q3; simp only [Fs, or_false] at q3; omega)
  replace h_sn := h_sn.kept hF 1 rfl (by intro q q1 q2 q3; simp only [Fs, or_false] at q3; omega)
  replace h_mt := h_mt.kept hF 1 rfl (by intro q q1 q2 q3; simp only [Fs, or_false] at q3; omega)
  replace h_sq := h_sq.kept hF 1 rfl (by intro q q1 q2 q3; simp only [Fs, or_false] at q3; omega)
  replace h_ls := h_ls.kept hF (by intro q q1 q2 q3; simp only [Fs, or_false] at q3; omega)
  show V p l e room_1 s m args below meth cd Q 32 H2 lo2 (kq + 37) (nq + 2590) 839 [(0, .ref (E 107 0)), (1, .ref x), (2, .int (zI t)), (3, .int (zI (co 0 0))), (4, .int (zI (co 0 1))), (5, .int (zI (sumZ (fun j => bz (co 3 j = 0)) c))), (6, .int (zI (sumZ (fun j => bz (co 3 j = 2)) c))), (7, .int (zI (sumZ (fun j => bz (¬ co 4 j = 0)) c))), (8, .int (zI a8)), (9, .int (zI (fsF co c))), (10, .int (zI a10)), (11, .ref y), (12, .ref (y + 1)), (13, .ref (y + 2)), (14, .int (zI (c : Int))), (15, .int (zI (co 1 (c : Int)))), (16, .int (zI (co 2 (c : Int)))), (17, .int (zI (co 6 (c : Int)))), (18, .int (zI (vdC co (c : Int)))), (19, .int (zI (wsC co (c : Int) 1))), (20, .int (zI (wsC co (c : Int) (-1)))), (21, .int (zI (mgC co (c : Int)))), (22, .int (zI ((hrT co (c : Int) : Nat) : Int))), (23, .int (zI (hvC co (c : Int)))), (24, .int (zI 0)), (25, .ref b)] [.int (zI ((lnT co (c : Int) (co 6 (c : Int)).toNat).length : Int)), .ref x]
  refine v_aload X dL_law_839 841 rfl 25 rfl ?_
  have hb_5 := hO.b6 (c : Int)
  refine v_muS X hM (p_isLine l E x v1_3 (lnT co (c : Int) (co 6 (c : Int)).toNat) b) kvL_isLine ksL_isLine kl_L_228 (As := [.ref x, .int (zI ((lnT co (c : Int) (co 6 (c : Int)).toNat).length : Int)), .ref b]) rfl rfl (rm_law rfl (by omega) (by omega)) dL_law_841 844 rfl (k' := kq + 37) (n' := nq + 2590) rfl rfl (fun q hq => hq.elim) ⟨h_cm, h_w, h_ls⟩ (fun rv H6 lo6 hM hF hpo => ?_)
  obtain ⟨rfl, hw_0, hw_1⟩ := hpo
  have h_w : RW E x v1_3 (lnT co (c : Int) (co 6 (c : Int)).toNat) H6 := hw_0
  clear hw_0
  have h_ls : StrW E b (lnT co (c : Int) (co 6 (c : Int)).toNat) H6 := hw_1
  clear hw_1
  replace h_cm := h_cm.kept hF 1 rfl (fun q _ _ h => h.elim)
  replace h_co := h_co.kept hF 28 rfl (fun q _ _ h => h.elim)
  replace h_hw := h_hw.kept hF (fun q _ _ h => h.elim)
  replace h_sn := h_sn.kept hF 1 rfl (fun q _ _ h => h.elim)
  replace h_mt := h_mt.kept hF 1 rfl (fun q _ _ h => h.elim)
  replace h_sq := h_sq.kept hF 1 rfl (fun q _ _ h => h.elim)
  show V p l e room_1 s m args below meth cd Q 32 H6 lo6 (kq + 37) (nq + 2590) 844 [(0, .ref (E 107 0)), (1, .ref x), (2, .int (zI t)), (3, .int (zI (co 0 0))), (4, .int (zI (co 0 1))), (5, .int (zI (sumZ (fun j => bz (co 3 j = 0)) c))), (6, .int (zI (sumZ (fun j => bz (co 3 j = 2)) c))), (7, .int (zI (sumZ (fun j => bz (¬ co 4 j = 0)) c))), (8, .int (zI a8)), (9, .int (zI (fsF co c))), (10, .int (zI a10)), (11, .ref y), (12, .ref (y + 1)), (13, .ref (y + 2)), (14, .int (zI (c : Int))), (15, .int (zI (co 1 (c : Int)))), (16, .int (zI (co 2 (c : Int)))), (17, .int (zI (co 6 (c : Int)))), (18, .int (zI (vdC co (c : Int)))), (19, .int (zI (wsC co (c : Int) 1))), (20, .int (zI (wsC co (c : Int) (-1)))), (21, .int (zI (mgC co (c : Int)))), (22, .int (zI ((hrT co (c : Int) : Nat) : Int))), (23, .int (zI (hvC co (c : Int)))), (24, .int (zI 0)), (25, .ref b)] [.int (zI 1)]
  refine v_if_eq X (by omega) dL_law_844 847 858 rfl (by decide) (fun c_7 => ?_) (fun c_7 => ?_)
  · skip
    exfalso; omega
  · skip
    refine v_aload_n X dL_law_847 848 rfl 1 rfl ?_
    refine v_iload X dL_law_848 850 rfl 14 rfl ?_
    refine v_mwS X hM (p_heavy l hl E x co (c : Int) hO (by omega) (by omega)) kwL_heaviestWitness ksL_heaviestWitness kl_L_232 (As := [.ref x, .int (zI (c : Int))]) rfl rfl (rm_lawW rfl (by omega) (by omega)) dL_law_850 853 rfl (k' := kq + 38) (n' := nq + 2596) rfl rfl (fun q hq => hq.elim) ⟨h_cm, h_co⟩ (fun rv H8 lo8 hM hF hpo => ?_)
    subst hpo
    replace h_cm := h_cm.kept hF 1 rfl (fun q _ _ h => h.elim)
    replace h_co := h_co.kept hF 28 rfl (fun q _ _ h => h.elim)
    replace h_hw := h_hw.kept hF (fun q _ _ h => h.elim)
    replace h_w := h_w.kept hF (fun q _ h => h.elim)
    replace h_sn := h_sn.kept hF 1 rfl (fun q _ _ h => h.elim)
    replace h_mt := h_mt.kept hF 1 rfl (fun q _ _ h => h.elim)
    replace h_sq := h_sq.kept hF 1 rfl (fun q _ _ h => h.elim)
    replace h_ls := h_ls.kept hF (fun q _ _ h => h.elim)
    show V p l e room_1 s m args below meth cd Q 32 H8 lo8 (kq + 38) (nq + 2596) 853 [(0, .ref (E 107 0)), (1, .ref x), (2, .int (zI t)), (3, .int (zI (co 0 0))), (4, .int (zI (co 0 1))), (5, .int (zI (sumZ (fun j => bz (co 3 j = 0)) c))), (6, .int (zI (sumZ (fun j => bz (co 3 j = 2)) c))), (7, .int (zI (sumZ (fun j => bz (¬ co 4 j = 0)) c))), (8, .int (zI a8)), (9, .int (zI (fsF co c))), (10, .int (zI a10)), (11, .ref y), (12, .ref (y + 1)), (13, .ref (y + 2)), (14, .int (zI (c : Int))), (15, .int (zI (co 1 (c : Int)))), (16, .int (zI (co 2 (c : Int)))), (17, .int (zI (co 6 (c : Int)))), (18, .int (zI (vdC co (c : Int)))), (19, .int (zI (wsC co (c : Int) 1))), (20, .int (zI (wsC co (c : Int) (-1)))), (21, .int (zI (mgC co (c : Int)))), (22, .int (zI ((hrT co (c : Int) : Nat) : Int))), (23, .int (zI (hvC co (c : Int)))), (24, .int (zI 0)), (25, .ref b)] [.int (zI (hvC co (c : Int)))]
    refine v_iload X dL_law_853 855 rfl 23 rfl ?_
    refine v_icmp_eq X (by omega) (by omega) dL_law_855 858 860 rfl (by decide) (fun c_9 => ?_) (fun c_9 => ?_)
    · skip
      refine v_iload X dL_law_860 862 rfl 6 rfl ?_
      suffices hJ862 : ∀ z9 : Int, z9 = (bz (co 3 (c : Int) = 2)) → V p l e room_1 s m args below meth cd Q 32 H8 lo8 (kq + 38) (nq + 2596) 876 [(0, .ref (E 107 0)), (1, .ref x), (2, .int (zI t)), (3, .int (zI (co 0 0))), (4, .int (zI (co 0 1))), (5, .int (zI (sumZ (fun j => bz (co 3 j = 0)) c))), (6, .int (zI (sumZ (fun j => bz (co 3 j = 2)) c))), (7, .int (zI (sumZ (fun j => bz (¬ co 4 j = 0)) c))), (8, .int (zI a8)), (9, .int (zI (fsF co c))), (10, .int (zI a10)), (11, .ref y), (12, .ref (y + 1)), (13, .ref (y + 2)), (14, .int (zI (c : Int))), (15, .int (zI (co 1 (c : Int)))), (16, .int (zI (co 2 (c : Int)))), (17, .int (zI (co 6 (c : Int)))), (18, .int (zI (vdC co (c : Int)))), (19, .int (zI (wsC co (c : Int) 1))), (20, .int (zI (wsC co (c : Int) (-1)))), (21, .int (zI (mgC co (c : Int)))), (22, .int (zI ((hrT co (c : Int) : Nat) : Int))), (23, .int (zI (hvC co (c : Int)))), (24, .int (zI 0)), (25, .ref b)] [.int (zI z9), .int (zI (sumZ (fun j => bz (co 3 j = 2)) c))] by
        refine v_aload_n X dL_law_862 863 rfl 1 rfl ?_
        refine v_iload X dL_law_863 865 rfl 14 rfl ?_
        refine v_rdV X hM.C (PW.app h_cm.1 h_co.1) (c_X9_isClosed l E x co 0 (-1) (-1) 0 (c : Int) hO (by omega) (by omega)) kvX9_isClosed kiX9_isClosed kl_L_172 rfl rfl (As := [.int (zI (c : Int))]) rfl rfl (rm_law0 rfl (by omega) (by omega)) dL_law_865 868 rfl ?_
        show V p l e room_1 s m args below meth cd Q 32 H8 lo8 (kq + 38) (nq + 2596) 868 [(0, .ref (E 107 0)), (1, .ref x), (2, .int (zI t)), (3, .int (zI (co 0 0))), (4, .int (zI (co 0 1))), (5, .int (zI (sumZ (fun j => bz (co 3 j = 0)) c))), (6, .int (zI (sumZ (fun j => bz (co 3 j = 2)) c))), (7, .int (zI (sumZ (fun j => bz (¬ co 4 j = 0)) c))), (8, .int (zI a8)), (9, .int (zI (fsF co c))), (10, .int (zI a10)), (11, .ref y), (12, .ref (y + 1)), (13, .ref (y + 2)), (14, .int (zI (c : Int))), (15, .int (zI (co 1 (c : Int)))), (16, .int (zI (co 2 (c : Int)))), (17, .int (zI (co 6 (c : Int)))), (18, .int (zI (vdC co (c : Int)))), (19, .int (zI (wsC co (c : Int) 1))), (20, .int (zI (wsC co (c : Int) (-1)))), (21, .int (zI (mgC co (c : Int)))), (22, .int (zI ((hrT co (c : Int) : Nat) : Int))), (23, .int (zI (hvC co (c : Int)))), (24, .int (zI 0)), (25, .ref b)] [.int (zI (bz (co 3 (c : Int) = 2))), .int (zI (sumZ (fun j => bz (co 3 j = 2)) c))]
        refine v_bif_eq X dL_law_868 871 875 rfl (by decide) (fun c_10 => ?_) (fun c_10 => ?_)
        · skip
          refine v_iconst X dL_law_875 876 rfl ?_
          exact hJ862 _ (by exact (bz_f (c_10)).symm)
        · skip
          refine v_iconst X dL_law_871 872 rfl ?_
          refine v_goto X dL_law_872 876 (by decide) ?_
          exact hJ862 _ (by exact (bz_t (c_10)).symm)
      intro z9 hz9
      subst hz9
      refine v_iadd X dL_law_876 877 rfl ?_
      refine v_istore X dL_law_877 879 rfl (by decide) (L' := [(6, .int (zI (sumZ (fun j => bz (co 3 j = 2)) c + bz ((co 3 (c : Int) = 2))))), (0, .ref (E 107 0)), (1, .ref x), (2, .int (zI t)), (3, .int (zI (co 0 0))), (4, .int (zI (co 0 1))), (5, .int (zI (sumZ (fun j => bz (co 3 j = 0)) c))), (7, .int (zI (sumZ (fun j => bz (¬ co 4 j = 0)) c))), (8, .int (zI a8)), (9, .int (zI (fsF co c))), (10, .int (zI a10)), (11, .ref y), (12, .ref (y + 1)), (13, .ref (y + 2)), (14, .int (zI (c : Int))), (15, .int (zI (co 1 (c : Int)))), (16, .int (zI (co 2 (c : Int)))), (17, .int (zI (co 6 (c : Int)))), (18, .int (zI (vdC co (c : Int)))), (19, .int (zI (wsC co (c : Int) 1))), (20, .int (zI (wsC co (c : Int) (-1)))), (21, .int (zI (mgC co (c : Int)))), (22, .int (zI ((hrT co (c : Int) : Nat) : Int))), (23, .int (zI (hvC co (c : Int)))), (24, .int (zI 0)), (25, .ref b)]) rfl ?_
      refine v_iload X dL_law_879 881 rfl 7 rfl ?_
      suffices hJ881 : ∀ z9 : Int, z9 = (bz (¬ co 4 (c : Int) = 0)) → V p l e room_1 s m args below meth cd Q 32 H8 lo8 (kq + 38) (nq + 2596) 892 [(6, .int (zI (sumZ (fun j => bz (co 3 j = 2)) c + bz ((co 3 (c : Int) = 2))))), (0, .ref (E 107 0)), (1, .ref x), (2, .int (zI t)), (3, .int (zI (co 0 0))), (4, .int (zI (co 0 1))), (5, .int (zI (sumZ (fun j => bz (co 3 j = 0)) c))), (7, .int (zI (sumZ (fun j => bz (¬ co 4 j = 0)) c))), (8, .int (zI a8)), (9, .int (zI (fsF co c))), (10, .int (zI a10)), (11, .ref y), (12, .ref (y + 1)), (13, .ref (y + 2)), (14, .int (zI (c : Int))), (15, .int (zI (co 1 (c : Int)))), (16, .int (zI (co 2 (c : Int)))), (17, .int (zI (co 6 (c : Int)))), (18, .int (zI (vdC co (c : Int)))), (19, .int (zI (wsC co (c : Int) 1))), (20, .int (zI (wsC co (c : Int) (-1)))), (21, .int (zI (mgC co (c : Int)))), (22, .int (zI ((hrT co (c : Int) : Nat) : Int))), (23, .int (zI (hvC co (c : Int)))), (24, .int (zI 0)), (25, .ref b)] [.int (zI z9), .int (zI (sumZ (fun j => bz (¬ co 4 j = 0)) c))] by
        refine v_iload X dL_law_881 883 rfl 18 rfl ?_
        refine v_iconst X dL_law_883 884 rfl ?_
        refine v_icmp_ne X (by omega) (by omega) dL_law_884 887 891 rfl (by decide) (fun c_11 => ?_) (fun c_11 => ?_)
        · skip
          refine v_iconst X dL_law_891 892 rfl ?_
          exact hJ881 _ (by exact (bz_f (fun q9 => c_11 (h1v.mpr q9))).symm)
        · skip
          refine v_iconst X dL_law_887 888 rfl ?_
          refine v_goto X dL_law_888 892 (by decide) ?_
          exact hJ881 _ (by exact (bz_t (h1v.mp c_11)).symm)
      intro z9 hz9
      subst hz9
      refine v_iadd X dL_law_892 893 rfl ?_
      refine v_istore X dL_law_893 895 rfl (by decide) (L' := [(7, .int (zI (sumZ (fun j => bz (¬ co 4 j = 0)) c + bz ((¬ co 4 (c : Int) = 0))))), (6, .int (zI (sumZ (fun j => bz (co 3 j = 2)) c + bz ((co 3 (c : Int) = 2))))), (0, .ref (E 107 0)), (1, .ref x), (2, .int (zI t)), (3, .int (zI (co 0 0))), (4, .int (zI (co 0 1))), (5, .int (zI (sumZ (fun j => bz (co 3 j = 0)) c))), (8, .int (zI a8)), (9, .int (zI (fsF co c))), (10, .int (zI a10)), (11, .ref y), (12, .ref (y + 1)), (13, .ref (y + 2)), (14, .int (zI (c : Int))), (15, .int (zI (co 1 (c : Int)))), (16, .int (zI (co 2 (c : Int)))), (17, .int (zI (co 6 (c : Int)))), (18, .int (zI (vdC co (c : Int)))), (19, .int (zI (wsC co (c : Int) 1))), (20, .int (zI (wsC co (c : Int) (-1)))), (21, .int (zI (mgC co (c : Int)))), (22, .int (zI ((hrT co (c : Int) : Nat) : Int))), (23, .int (zI (hvC co (c : Int)))), (24, .int (zI 0)), (25, .ref b)]) rfl ?_
      refine v_aload X dL_law_895 897 rfl 11 rfl ?_
      refine v_iload X dL_law_897 899 rfl 15 rfl ?_
      refine v_dup2 X dL_law_899 900 rfl rfl rfl ?_
      have hb_12 := hO.b1 (c : Int)
      refine v_iald X hM.C h_sn.1 0 rfl (by omega) (by omega) (by omega) dL_law_900 901 rfl ?_
      show V p l e room_1 s m args below meth cd Q 32 H8 lo8 (kq + 38) (nq + 2596) 901 [(7, .int (zI (sumZ (fun j => bz (¬ co 4 j = 0)) c + bz ((¬ co 4 (c : Int) = 0))))), (6, .int (zI (sumZ (fun j => bz (co 3 j = 2)) c + bz ((co 3 (c : Int) = 2))))), (0, .ref (E 107 0)), (1, .ref x), (2, .int (zI t)), (3, .int (zI (co 0 0))), (4, .int (zI (co 0 1))), (5, .int (zI (sumZ (fun j => bz (co 3 j = 0)) c))), (8, .int (zI a8)), (9, .int (zI (fsF co c))), (10, .int (zI a10)), (11, .ref y), (12, .ref (y + 1)), (13, .ref (y + 2)), (14, .int (zI (c : Int))), (15, .int (zI (co 1 (c : Int)))), (16, .int (zI (co 2 (c : Int)))), (17, .int (zI (co 6 (c : Int)))), (18, .int (zI (vdC co (c : Int)))), (19, .int (zI (wsC co (c : Int) 1))), (20, .int (zI (wsC co (c : Int) (-1)))), (21, .int (zI (mgC co (c : Int)))), (22, .int (zI ((hrT co (c : Int) : Nat) : Int))), (23, .int (zI (hvC co (c : Int)))), (24, .int (zI 0)), (25, .ref b)] [.int (zI ((snF co c) (co 1 (c : Int)))), .int (zI (co 1 (c : Int))), .ref y]
      suffices hJ901 : ∀ z9 : Int, z9 = (if ¬ co 4 (c : Int) = 0 then co 2 (c : Int) + 1 else 0) → V p l e room_1 s m args below meth cd Q 32 H8 lo8 (kq + 38) (nq + 2596) 915 [(7, .int (zI (sumZ (fun j => bz (¬ co 4 j = 0)) c + bz ((¬ co 4 (c : Int) = 0))))), (6, .int (zI (sumZ (fun j => bz (co 3 j = 2)) c + bz ((co 3 (c : Int) = 2))))), (0, .ref (E 107 0)), (1, .ref x), (2, .int (zI t)), (3, .int (zI (co 0 0))), (4, .int (zI (co 0 1))), (5, .int (zI (sumZ (fun j => bz (co 3 j = 0)) c))), (8, .int (zI a8)), (9, .int (zI (fsF co c))), (10, .int (zI a10)), (11, .ref y), (12, .ref (y + 1)), (13, .ref (y + 2)), (14, .int (zI (c : Int))), (15, .int (zI (co 1 (c : Int)))), (16, .int (zI (co 2 (c : Int)))), (17, .int (zI (co 6 (c : Int)))), (18, .int (zI (vdC co (c : Int)))), (19, .int (zI (wsC co (c : Int) 1))), (20, .int (zI (wsC co (c : Int) (-1)))), (21, .int (zI (mgC co (c : Int)))), (22, .int (zI ((hrT co (c : Int) : Nat) : Int))), (23, .int (zI (hvC co (c : Int)))), (24, .int (zI 0)), (25, .ref b)] [.int (zI z9), .int (zI ((snF co c) (co 1 (c : Int)))), .int (zI (co 1 (c : Int))), .ref y] by
        refine v_iload X dL_law_901 903 rfl 18 rfl ?_
        refine v_iconst X dL_law_903 904 rfl ?_
        refine v_icmp_ne X (by omega) (by omega) dL_law_904 907 914 rfl (by decide) (fun c_13 => ?_) (fun c_13 => ?_)
        · skip
          refine v_iconst X dL_law_914 915 rfl ?_
          exact hJ901 _ (by rw [if_neg (fun q9 => c_13 (h1v.mpr q9))])
        · skip
          refine v_iload X dL_law_907 909 rfl 16 rfl ?_
          refine v_iconst X dL_law_909 910 rfl ?_
          refine v_iadd X dL_law_910 911 rfl ?_
          refine v_goto X dL_law_911 915 (by decide) ?_
          exact hJ901 _ (by rw [if_pos (h1v.mp c_13)])
      intro z9 hz9
      subst hz9
      refine v_iadd X dL_law_915 916 rfl ?_
      refine v_iast X hM h_sn 0 rfl (by omega) (by omega) (by omega) (Or.inr (by omega)) dL_law_916 917 rfl (ws' := [(y, .inl (E 102 0, 6, .inl (zA (updZ (snF co c) (co 1 (c : Int)) ((snF co c) (co 1 (c : Int)) + (if ¬ co 4 (c : Int) = 0 then co 2 (c : Int) + 1 else 0))))))]) rfl (fun H14 lo14 hzz hM hF h_sn => ?_)
      clear hzz
      replace h_cm := h_cm.kept hF 1 rfl (by intro q q1 q2 q3; simp only [Fs, or_false] at q3; omega)
      replace h_co := h_co.kept hF 28 rfl (by intro q q1 q2 q3; simp only [Fs, or_false] at q3; omega)
      replace h_hw := h_hw.kept hF (by intro q q1 q2 q3; simp only [Fs, or_false] at q3; omega)
      replace h_w := h_w.kept hF (by intro q q1 q3; simp only [Fs, or_false] at q3; omega)
      replace h_mt := h_mt.kept hF 1 rfl (by intro q q1 q2 q3; simp only [Fs, or_false] at q3; omega)
      replace h_sq := h_sq.kept hF 1 rfl (by intro q q1 q2 q3; simp only [Fs, or_false] at q3; omega)
      replace h_ls := h_ls.kept hF (by intro q q1 q2 q3; simp only [Fs, or_false] at q3; omega)
      refine v_aload_n X dL_law_917 918 rfl 3 rfl ?_
      refine v_iload X dL_law_918 920 rfl 14 rfl ?_
      refine v_rdV X hM.C (PW.app h_cm.1 h_co.1) (c_X9_isOpen l E x co 0 (-1) (-1) 0 (c : Int) hO (by omega) (by omega)) kvX9_isOpen kiX9_isOpen kl_L_186 rfl rfl (As := [.int (zI (c : Int))]) rfl rfl (rm_law0 rfl (by omega) (by omega)) dL_law_920 923 rfl ?_
      show V p l e room_1 s m args below meth cd Q 32 H14 lo14 (kq + 38) (nq + 2596) 923 [(7, .int (zI (sumZ (fun j => bz (¬ co 4 j = 0)) c + bz ((¬ co 4 (c : Int) = 0))))), (6, .int (zI (sumZ (fun j => bz (co 3 j = 2)) c + bz ((co 3 (c : Int) = 2))))), (0, .ref (E 107 0)), (1, .ref x), (2, .int (zI t)), (3, .int (zI (co 0 0))), (4, .int (zI (co 0 1))), (5, .int (zI (sumZ (fun j => bz (co 3 j = 0)) c))), (8, .int (zI a8)), (9, .int (zI (fsF co c))), (10, .int (zI a10)), (11, .ref y), (12, .ref (y + 1)), (13, .ref (y + 2)), (14, .int (zI (c : Int))), (15, .int (zI (co 1 (c : Int)))), (16, .int (zI (co 2 (c : Int)))), (17, .int (zI (co 6 (c : Int)))), (18, .int (zI (vdC co (c : Int)))), (19, .int (zI (wsC co (c : Int) 1))), (20, .int (zI (wsC co (c : Int) (-1)))), (21, .int (zI (mgC co (c : Int)))), (22, .int (zI ((hrT co (c : Int) : Nat) : Int))), (23, .int (zI (hvC co (c : Int)))), (24, .int (zI 0)), (25, .ref b)] [.int (zI (bz (co 3 (c : Int) = 0)))]
      refine v_bif_ne X dL_law_923 926 940 rfl (by decide) (fun c_15 => ?_) (fun c_15 => ?_)
      · skip
        refine v_iinc X dL_law_940 943 rfl 7 rfl (by decide) (L' := [(5, .int (zI (sumZ (fun j => bz (co 3 j = 0)) c + 1))), (7, .int (zI (sumZ (fun j => bz (¬ co 4 j = 0)) c + bz ((¬ co 4 (c : Int) = 0))))), (6, .int (zI (sumZ (fun j => bz (co 3 j = 2)) c + bz ((co 3 (c : Int) = 2))))), (0, .ref (E 107 0)), (1, .ref x), (2, .int (zI t)), (3, .int (zI (co 0 0))), (4, .int (zI (co 0 1))), (8, .int (zI a8)), (9, .int (zI (fsF co c))), (10, .int (zI a10)), (11, .ref y), (12, .ref (y + 1)), (13, .ref (y + 2)), (14, .int (zI (c : Int))), (15, .int (zI (co 1 (c : Int)))), (16, .int (zI (co 2 (c : Int)))), (17, .int (zI (co 6 (c : Int)))), (18, .int (zI (vdC co (c : Int)))), (19, .int (zI (wsC co (c : Int) 1))), (20, .int (zI (wsC co (c : Int) (-1)))), (21, .int (zI (mgC co (c : Int)))), (22, .int (zI ((hrT co (c : Int) : Nat) : Int))), (23, .int (zI (hvC co (c : Int)))), (24, .int (zI 0)), (25, .ref b)]) rfl ?_
        refine v_iconst X dL_law_943 944 rfl ?_
        refine v_istore X dL_law_944 946 rfl (by decide) (L' := [(26, .int (zI 0)), (5, .int (zI (sumZ (fun j => bz (co 3 j = 0)) c + 1))), (7, .int (zI (sumZ (fun j => bz (¬ co 4 j = 0)) c + bz ((¬ co 4 (c : Int) = 0))))), (6, .int (zI (sumZ (fun j => bz (co 3 j = 2)) c + bz ((co 3 (c : Int) = 2))))), (0, .ref (E 107 0)), (1, .ref x), (2, .int (zI t)), (3, .int (zI (co 0 0))), (4, .int (zI (co 0 1))), (8, .int (zI a8)), (9, .int (zI (fsF co c))), (10, .int (zI a10)), (11, .ref y), (12, .ref (y + 1)), (13, .ref (y + 2)), (14, .int (zI (c : Int))), (15, .int (zI (co 1 (c : Int)))), (16, .int (zI (co 2 (c : Int)))), (17, .int (zI (co 6 (c : Int)))), (18, .int (zI (vdC co (c : Int)))), (19, .int (zI (wsC co (c : Int) 1))), (20, .int (zI (wsC co (c : Int) (-1)))), (21, .int (zI (mgC co (c : Int)))), (22, .int (zI ((hrT co (c : Int) : Nat) : Int))), (23, .int (zI (hvC co (c : Int)))), (24, .int (zI 0)), (25, .ref b)]) rfl ?_
        refine v_locals [25, 0, 1, 4, 5, 6, 7, 8, 3, 2, 9, 10, 11, 12, 13, 14, 15, 16, 17, 18, 19, 20, 21, 22, 23, 24, 26] (L' := [(24, .int (zI 0)), (26, .int (zI 0)), (5, .int (zI (sumZ (fun j => bz (co 3 j = 0)) c + 1))), (0, .ref (E 107 0)), (1, .ref x), (2, .int (zI t)), (3, .int (zI (co 0 0))), (4, .int (zI (co 0 1))), (6, .int (zI (sumZ (fun j => bz (co 3 j = 2)) c + bz ((co 3 (c : Int) = 2))))), (7, .int (zI (sumZ (fun j => bz (¬ co 4 j = 0)) c + bz ((¬ co 4 (c : Int) = 0))))), (8, .int (zI a8)), (9, .int (zI (fsF co c))), (10, .int (zI a10)), (11, .ref y), (12, .ref (y + 1)), (13, .ref (y + 2)), (14, .int (zI (c : Int))), (15, .int (zI (co 1 (c : Int)))), (16, .int (zI (co 2 (c : Int)))), (17, .int (zI (co 6 (c : Int)))), (18, .int (zI (vdC co (c : Int)))), (19, .int (zI (wsC co (c : Int) 1))), (20, .int (zI (wsC co (c : Int) (-1)))), (21, .int (zI (mgC co (c : Int)))), (22, .int (zI ((hrT co (c : Int) : Nat) : Int))), (23, .int (zI (hvC co (c : Int)))), (25, .ref b)]) rfl ?_
        refine V_L (L' := [(24, .int (zI (sumZ (fun j => bz (co 3 j = 0 ∧ cbC co j (c : Int))) 0))), (26, .int (zI 0)), (5, .int (zI (sumZ (fun j => bz (co 3 j = 0)) c + 1))), (0, .ref (E 107 0)), (1, .ref x), (2, .int (zI t)), (3, .int (zI (co 0 0))), (4, .int (zI (co 0 1))), (6, .int (zI (sumZ (fun j => bz (co 3 j = 2)) c + bz (co 3 (c : Int) = 2)))), (7, .int (zI (sumZ (fun j => bz (¬ co 4 j = 0)) c + bz (¬ co 4 (c : Int) = 0)))), (8, .int (zI a8)), (9, .int (zI (fsF co c))), (10, .int (zI a10)), (11, .ref y), (12, .ref (y + 1)), (13, .ref (y + 2)), (14, .int (zI (c : Int))), (15, .int (zI (co 1 (c : Int)))), (16, .int (zI (co 2 (c : Int)))), (17, .int (zI (co 6 (c : Int)))), (18, .int (zI (vdC co (c : Int)))), (19, .int (zI (wsC co (c : Int) 1))), (20, .int (zI (wsC co (c : Int) (-1)))), (21, .int (zI (mgC co (c : Int)))), (22, .int (zI ((hrT co (c : Int) : Nat) : Int))), (23, .int (zI (hvC co (c : Int)))), (25, .ref b)]) (LC (vz (by rfl)) (LC rfl (LC rfl (LC rfl (LC rfl (LC rfl (LC rfl (LC rfl (LC rfl (LC rfl (LC rfl (LC rfl (LC rfl (LC rfl (LC rfl (LC rfl (LC rfl (LC rfl (LC rfl (LC rfl (LC rfl (LC rfl (LC rfl (LC rfl (LC rfl (LC rfl (LC rfl rfl))))))))))))))))))))))))))) ?_
        refine up_loop ((co 0 0).toNat) (P := fun (i : Nat) => ∀ (H : Heap) (lo : List Loc), MS E [] s H lo → PR E x [(x, .inr (11, [.ref (x + 1), .ref (x + 29), .ref (x + 57), .ref (x + 85), .ref (x + 311), .ref (x + 314), .ref (x + 319), .ref (x + 332), .int (zI 0), .int (zI (-1)), .int (zI (-1)), .int (zI 0)]))] H → PR E (x + 1) (courtW E (x + 1) co) H → HW E x H → RW E x v1_3 (lnT co (c : Int) (co 6 (c : Int)).toNat) H → PR E y [(y, .inl (E 102 0, 6, .inl (zA (updZ (snF co c) (co 1 (c : Int)) ((snF co c) (co 1 (c : Int)) + (if ¬ co 4 (c : Int) = 0 then co 2 (c : Int) + 1 else 0))))))] H → PR E (y + 1) [(y + 1, .inl (E 102 0, 8, .inl (zA (nZ mF))))] H → PR E (y + 2) [(y + 2, .inl (E 102 0, 8, .inl (zA qF)))] H → StrW E b (lnT co (c : Int) (co 6 (c : Int)).toNat) H → V p l e room_1 s m args below meth cd Q 32 H lo (kq + 38) (nq + 2596) 946 [(24, .int (zI (sumZ (fun j => bz (co 3 j = 0 ∧ cbC co j (c : Int))) i))), (26, .int (zI (i : Int))), (5, .int (zI (sumZ (fun j => bz (co 3 j = 0)) c + 1))), (0, .ref (E 107 0)), (1, .ref x), (2, .int (zI t)), (3, .int (zI (co 0 0))), (4, .int (zI (co 0 1))), (6, .int (zI (sumZ (fun j => bz (co 3 j = 2)) c + bz (co 3 (c : Int) = 2)))), (7, .int (zI (sumZ (fun j => bz (¬ co 4 j = 0)) c + bz (¬ co 4 (c : Int) = 0)))), (8, .int (zI a8)), (9, .int (zI (fsF co c))), (10, .int (zI a10)), (11, .ref y), (12, .ref (y + 1)), (13, .ref (y + 2)), (14, .int (zI (c : Int))), (15, .int (zI (co 1 (c : Int)))), (16, .int (zI (co 2 (c : Int)))), (17, .int (zI (co 6 (c : Int)))), (18, .int (zI (vdC co (c : Int)))), (19, .int (zI (wsC co (c : Int) 1))), (20, .int (zI (wsC co (c : Int) (-1)))), (21, .int (zI (mgC co (c : Int)))), (22, .int (zI ((hrT co (c : Int) : Nat) : Int))), (23, .int (zI (hvC co (c : Int)))), (25, .ref b)] []) (fun i hi_i ih_i H16 lo16 hM h_cm h_co h_hw h_w h_sn h_mt h_sq h_ls => ?_) _ _ hM h_cm h_co h_hw h_w h_sn h_mt h_sq h_ls
        have hb3i := hO.b3 (i : Int)
        have hb2i := hO.b2 (i : Int)
        have hb6i := hO.b6 (i : Int)
        have hb2c := hO.b2 (c : Int)
        have hb6c := hO.b6 (c : Int)
        refine v_iload X dL_law_946 948 rfl 1 rfl ?_
        refine v_iload_n X dL_law_948 949 rfl 6 rfl ?_
        refine v_icmp_ge X (by omega) (by omega) dL_law_949 952 1026 rfl (by decide) (fun c_17 => ?_) (fun c_17 => ?_)
        · skip
          refine V_L (L' := [(24, .int (zI (rkD co (c : Int)))), (26, .int (zI (i : Int))), (5, .int (zI (sumZ (fun j => bz (co 3 j = 0)) c + 1))), (0, .ref (E 107 0)), (1, .ref x), (2, .int (zI t)), (3, .int (zI (co 0 0))), (4, .int (zI (co 0 1))), (6, .int (zI (sumZ (fun j => bz (co 3 j = 2)) c + bz (co 3 (c : Int) = 2)))), (7, .int (zI (sumZ (fun j => bz (¬ co 4 j = 0)) c + bz (¬ co 4 (c : Int) = 0)))), (8, .int (zI a8)), (9, .int (zI (fsF co c))), (10, .int (zI a10)), (11, .ref y), (12, .ref (y + 1)), (13, .ref (y + 2)), (14, .int (zI (c : Int))), (15, .int (zI (co 1 (c : Int)))), (16, .int (zI (co 2 (c : Int)))), (17, .int (zI (co 6 (c : Int)))), (18, .int (zI (vdC co (c : Int)))), (19, .int (zI (wsC co (c : Int) 1))), (20, .int (zI (wsC co (c : Int) (-1)))), (21, .int (zI (mgC co (c : Int)))), (22, .int (zI ((hrT co (c : Int) : Nat) : Int))), (23, .int (zI (hvC co (c : Int)))), (25, .ref b)]) (LC (vz (by rw [show i = (co 0 0).toNat by omega]; rfl)) (LC rfl (LC rfl (LC rfl (LC rfl (LC rfl (LC rfl (LC rfl (LC rfl (LC rfl (LC rfl (LC rfl (LC rfl (LC rfl (LC rfl (LC rfl (LC rfl (LC rfl (LC rfl (LC rfl (LC rfl (LC rfl (LC rfl (LC rfl (LC rfl (LC rfl (LC rfl rfl))))))))))))))))))))))))))) ?_
          refine v_aload_n X dL_law_1026 1027 rfl 4 rfl ?_
          refine v_iload X dL_law_1027 1029 rfl 16 rfl ?_
          have hb_18 := hO.b3 (c : Int)
          refine v_rdV X hM.C (PW.app h_cm.1 h_co.1) (c_X9_docketPosition l E x co 0 (-1) (-1) 0 (c : Int) hO (by omega) (by omega) (by omega)) kvX9_docketPosition kiX9_docketPosition kl_L_64 rfl rfl (As := [.int (zI (c : Int))]) rfl rfl (rm_law0 rfl (by omega) (by omega)) dL_law_1029 1032 rfl ?_
          show V p l e room_1 s m args below meth cd Q 32 H16 lo16 (kq + 38) (nq + 2596) 1032 [(24, .int (zI (rkD co (c : Int)))), (26, .int (zI (i : Int))), (5, .int (zI (sumZ (fun j => bz (co 3 j = 0)) c + 1))), (0, .ref (E 107 0)), (1, .ref x), (2, .int (zI t)), (3, .int (zI (co 0 0))), (4, .int (zI (co 0 1))), (6, .int (zI (sumZ (fun j => bz (co 3 j = 2)) c + bz (co 3 (c : Int) = 2)))), (7, .int (zI (sumZ (fun j => bz (¬ co 4 j = 0)) c + bz (¬ co 4 (c : Int) = 0)))), (8, .int (zI a8)), (9, .int (zI (fsF co c))), (10, .int (zI a10)), (11, .ref y), (12, .ref (y + 1)), (13, .ref (y + 2)), (14, .int (zI (c : Int))), (15, .int (zI (co 1 (c : Int)))), (16, .int (zI (co 2 (c : Int)))), (17, .int (zI (co 6 (c : Int)))), (18, .int (zI (vdC co (c : Int)))), (19, .int (zI (wsC co (c : Int) 1))), (20, .int (zI (wsC co (c : Int) (-1)))), (21, .int (zI (mgC co (c : Int)))), (22, .int (zI ((hrT co (c : Int) : Nat) : Int))), (23, .int (zI (hvC co (c : Int)))), (25, .ref b)] [.int (zI (sumZ (fun j => bz (co 3 j = 0 ∧ cbC co j (c : Int))) (co 0 0).toNat))]
          refine V_S (st' := [.int (zI (rkD co (c : Int)))]) (by rfl) ?_
          have hdp := dp_of hO (k := (c : Int)) (by omega) hc (by omega)
          refine v_iload X dL_law_1032 1034 rfl 0 rfl ?_
          refine v_icmp_ne X (by omega) (by omega) dL_law_1034 1037 1048 rfl (by decide) (fun c_19 => ?_) (fun c_19 => ?_)
          · skip
            exfalso; exact c_19 rfl
          · skip
            refine v_aload_n X dL_law_1037 1038 rfl 4 rfl ?_
            refine v_iload X dL_law_1038 1040 rfl 0 rfl ?_
            refine v_muV X hM (h_cm.1) (p_docketAt l E x co (rkD co (c : Int)) v1_3 (lnT co (c : Int) (co 6 (c : Int)).toNat) hO (by omega) (by omega)) kvX9_docketAt kiX9_docketAt kl_L_61 (q0 := 0) rfl rfl (As := [.int (zI (rkD co (c : Int)))]) rfl rfl (rm_law rfl (by omega) (by omega)) dL_law_1040 1043 rfl (k' := kq + 38) (n' := nq + 2596) rfl rfl (by intro q hq; simp only [Fr, Fs, or_false, false_or] at hq ⊢; omega) ⟨h_cm, h_co, h_w⟩ (fun rv H20 lo20 hM hF hpo => ?_)
            obtain ⟨rfl, hw_0⟩ := hpo
            have h_w : RW E x v1_3 (lnT co (c : Int) (co 6 (c : Int)).toNat) H20 := hw_0
            clear hw_0
            replace h_cm := h_cm.kept hF 1 rfl (by intro q q1 q2 q3; simp only [Fs, or_false] at q3; omega)
            replace h_co := h_co.kept hF 28 rfl (by intro q q1 q2 q3; simp only [Fs, or_false] at q3; omega)
            replace h_hw := h_hw.kept hF (by intro q q1 q2 q3; simp only [Fs, or_false] at q3; omega)
            replace h_sn := h_sn.kept hF 1 rfl (by intro q q1 q2 q3; simp only [Fs, or_false] at q3; omega)
            replace h_mt := h_mt.kept hF 1 rfl (by intro q q1 q2 q3; simp only [Fs, or_false] at q3; omega)
            replace h_sq := h_sq.kept hF 1 rfl (by intro q q1 q2 q3; simp only [Fs, or_false] at q3; omega)
            replace h_ls := h_ls.kept hF (by intro q q1 q2 q3; simp only [Fs, or_false] at q3; omega)
            show V p l e room_1 s m args below meth cd Q 32 H20 lo20 (kq + 38) (nq + 2596) 1043 [(24, .int (zI (rkD co (c : Int)))), (26, .int (zI (i : Int))), (5, .int (zI (sumZ (fun j => bz (co 3 j = 0)) c + 1))), (0, .ref (E 107 0)), (1, .ref x), (2, .int (zI t)), (3, .int (zI (co 0 0))), (4, .int (zI (co 0 1))), (6, .int (zI (sumZ (fun j => bz (co 3 j = 2)) c + bz (co 3 (c : Int) = 2)))), (7, .int (zI (sumZ (fun j => bz (¬ co 4 j = 0)) c + bz (¬ co 4 (c : Int) = 0)))), (8, .int (zI a8)), (9, .int (zI (fsF co c))), (10, .int (zI a10)), (11, .ref y), (12, .ref (y + 1)), (13, .ref (y + 2)), (14, .int (zI (c : Int))), (15, .int (zI (co 1 (c : Int)))), (16, .int (zI (co 2 (c : Int)))), (17, .int (zI (co 6 (c : Int)))), (18, .int (zI (vdC co (c : Int)))), (19, .int (zI (wsC co (c : Int) 1))), (20, .int (zI (wsC co (c : Int) (-1)))), (21, .int (zI (mgC co (c : Int)))), (22, .int (zI ((hrT co (c : Int) : Nat) : Int))), (23, .int (zI (hvC co (c : Int)))), (25, .ref b)] [.int (zI (dpC co (rkD co (c : Int))))]
            refine v_iload X dL_law_1043 1045 rfl 16 rfl ?_
            refine v_icmp_eq X (by omega) (by omega) dL_law_1045 1048 1050 rfl (by decide) (fun c_21 => ?_) (fun c_21 => ?_)
            · skip
              suffices hJ1050 : ∀ z9 : Int, z9 = (fsF co (c + 1)) → V p l e room_1 s m args below meth cd Q 32 H20 lo20 (kq + 38) (nq + 2596) 1081 [(24, .int (zI (rkD co (c : Int)))), (26, .int (zI (i : Int))), (5, .int (zI (sumZ (fun j => bz (co 3 j = 0)) c + 1))), (0, .ref (E 107 0)), (1, .ref x), (2, .int (zI t)), (3, .int (zI (co 0 0))), (4, .int (zI (co 0 1))), (6, .int (zI (sumZ (fun j => bz (co 3 j = 2)) c + bz (co 3 (c : Int) = 2)))), (7, .int (zI (sumZ (fun j => bz (¬ co 4 j = 0)) c + bz (¬ co 4 (c : Int) = 0)))), (8, .int (zI a8)), (9, .int (zI (fsF co c))), (10, .int (zI a10)), (11, .ref y), (12, .ref (y + 1)), (13, .ref (y + 2)), (14, .int (zI (c : Int))), (15, .int (zI (co 1 (c : Int)))), (16, .int (zI (co 2 (c : Int)))), (17, .int (zI (co 6 (c : Int)))), (18, .int (zI (vdC co (c : Int)))), (19, .int (zI (wsC co (c : Int) 1))), (20, .int (zI (wsC co (c : Int) (-1)))), (21, .int (zI (mgC co (c : Int)))), (22, .int (zI ((hrT co (c : Int) : Nat) : Int))), (23, .int (zI (hvC co (c : Int)))), (25, .ref b)] [.int (zI z9)] by
                refine v_iload X dL_law_1050 1052 rfl 19 rfl ?_
                refine v_if_le X (by omega) dL_law_1052 1055 1079 rfl (by decide) (fun c_22 => ?_) (fun c_22 => ?_)
                · skip
                  refine v_iload X dL_law_1079 1081 rfl 11 rfl ?_
                  exact hJ1050 _ (by exact fsF_s (by rw [if_neg (fun q9 => by have q8 := q9.2.1; omega)]))
                · skip
                  refine v_iload X dL_law_1055 1057 rfl 11 rfl ?_
                  refine v_sipush X dL_law_1057 1060 rfl rfl ?_
                  refine v_icmp_eq X (by omega) (by omega) dL_law_1060 1063 1074 rfl (by decide) (fun c_23 => ?_) (fun c_23 => ?_)
                  · skip
                    refine v_iload X dL_law_1074 1076 rfl 16 rfl ?_
                    refine v_goto X dL_law_1076 1081 (by decide) ?_
                    exact hJ1050 _ (by exact fsF_s (by rw [if_pos ⟨by omega, by omega, Or.inl (by omega)⟩]))
                  · skip
                    have hfo := fs_ok c_23
                    have hrb2 := rkD_b co (fsF co c)
                    refine v_iload X dL_law_1063 1065 rfl 0 rfl ?_
                    refine v_aload_n X dL_law_1065 1066 rfl 4 rfl ?_
                    refine v_iload X dL_law_1066 1068 rfl 11 rfl ?_
                    have hb_24 := hO.b3 (fsF co c)
                    refine v_rdV X hM.C (PW.app h_cm.1 h_co.1) (c_X9_docketPosition l E x co 0 (-1) (-1) 0 (fsF co c) hO (by omega) (by omega) (by omega)) kvX9_docketPosition kiX9_docketPosition kl_L_64 rfl rfl (As := [.int (zI (fsF co c))]) rfl rfl (rm_law0 rfl (by omega) (by omega)) dL_law_1068 1071 rfl ?_
                    show V p l e room_1 s m args below meth cd Q 32 H20 lo20 (kq + 38) (nq + 2596) 1071 [(24, .int (zI (rkD co (c : Int)))), (26, .int (zI (i : Int))), (5, .int (zI (sumZ (fun j => bz (co 3 j = 0)) c + 1))), (0, .ref (E 107 0)), (1, .ref x), (2, .int (zI t)), (3, .int (zI (co 0 0))), (4, .int (zI (co 0 1))), (6, .int (zI (sumZ (fun j => bz (co 3 j = 2)) c + bz (co 3 (c : Int) = 2)))), (7, .int (zI (sumZ (fun j => bz (¬ co 4 j = 0)) c + bz (¬ co 4 (c : Int) = 0)))), (8, .int (zI a8)), (9, .int (zI (fsF co c))), (10, .int (zI a10)), (11, .ref y), (12, .ref (y + 1)), (13, .ref (y + 2)), (14, .int (zI (c : Int))), (15, .int (zI (co 1 (c : Int)))), (16, .int (zI (co 2 (c : Int)))), (17, .int (zI (co 6 (c : Int)))), (18, .int (zI (vdC co (c : Int)))), (19, .int (zI (wsC co (c : Int) 1))), (20, .int (zI (wsC co (c : Int) (-1)))), (21, .int (zI (mgC co (c : Int)))), (22, .int (zI ((hrT co (c : Int) : Nat) : Int))), (23, .int (zI (hvC co (c : Int)))), (25, .ref b)] [.int (zI (sumZ (fun j => bz (co 3 j = 0 ∧ cbC co j (fsF co c))) (co 0 0).toNat)), .int (zI (rkD co (c : Int)))]
                    refine V_S (st' := [.int (zI (rkD co (fsF co c))), .int (zI (rkD co (c : Int)))]) (by rfl) ?_
                    refine v_icmp_ge X (by omega) (by omega) dL_law_1071 1074 1079 rfl (by decide) (fun c_25 => ?_) (fun c_25 => ?_)
                    · skip
                      refine v_iload X dL_law_1079 1081 rfl 11 rfl ?_
                      exact hJ1050 _ (by exact fsF_s (by rw [if_neg (fun q9 => by have q8 := q9.2.2; omega)]))
                    · skip
                      refine v_iload X dL_law_1074 1076 rfl 16 rfl ?_
                      refine v_goto X dL_law_1076 1081 (by decide) ?_
                      exact hJ1050 _ (by exact fsF_s (by rw [if_pos ⟨by omega, by omega, Or.inr (by omega)⟩]))
              intro z9 hz9
              subst hz9
              refine v_istore X dL_law_1081 1083 rfl (by decide) (L' := [(9, .int (zI (fsF co (c + 1)))), (24, .int (zI (rkD co (c : Int)))), (26, .int (zI (i : Int))), (5, .int (zI (sumZ (fun j => bz (co 3 j = 0)) c + 1))), (0, .ref (E 107 0)), (1, .ref x), (2, .int (zI t)), (3, .int (zI (co 0 0))), (4, .int (zI (co 0 1))), (6, .int (zI (sumZ (fun j => bz (co 3 j = 2)) c + bz (co 3 (c : Int) = 2)))), (7, .int (zI (sumZ (fun j => bz (¬ co 4 j = 0)) c + bz (¬ co 4 (c : Int) = 0)))), (8, .int (zI a8)), (10, .int (zI a10)), (11, .ref y), (12, .ref (y + 1)), (13, .ref (y + 2)), (14, .int (zI (c : Int))), (15, .int (zI (co 1 (c : Int)))), (16, .int (zI (co 2 (c : Int)))), (17, .int (zI (co 6 (c : Int)))), (18, .int (zI (vdC co (c : Int)))), (19, .int (zI (wsC co (c : Int) 1))), (20, .int (zI (wsC co (c : Int) (-1)))), (21, .int (zI (mgC co (c : Int)))), (22, .int (zI ((hrT co (c : Int) : Nat) : Int))), (23, .int (zI (hvC co (c : Int)))), (25, .ref b)]) rfl ?_
              refine v_widen (k' := kq + 60) (n' := nq + 3000) (by omega) (by omega) ?_
              refine v_locals [4, 5, 6, 7, 8, 3, 9, 10, 11, 0, 12, 13, 14, 15, 16] (L' := [(0, .ref (E 107 0)), (1, .ref x), (2, .int (zI t)), (3, .int (zI (co 0 0))), (4, .int (zI (co 0 1))), (5, .int (zI (sumZ (fun j => bz (co 3 j = 0)) c + 1))), (6, .int (zI (sumZ (fun j => bz (co 3 j = 2)) c + bz (co 3 (c : Int) = 2)))), (7, .int (zI (sumZ (fun j => bz (¬ co 4 j = 0)) c + bz (¬ co 4 (c : Int) = 0)))), (8, .int (zI a8)), (9, .int (zI (fsF co (c + 1)))), (10, .int (zI a10)), (11, .ref y), (12, .ref (y + 1)), (13, .ref (y + 2)), (14, .int (zI (c : Int)))]) rfl ?_
              refine V_L (L' := [(0, .ref (E 107 0)), (1, .ref x), (2, .int (zI t)), (3, .int (zI (co 0 0))), (4, .int (zI (co 0 1))), (5, .int (zI (sumZ (fun j => bz (co 3 j = 0)) (c + 1)))), (6, .int (zI (sumZ (fun j => bz (co 3 j = 2)) (c + 1)))), (7, .int (zI (sumZ (fun j => bz (¬ co 4 j = 0)) (c + 1)))), (8, .int (zI a8)), (9, .int (zI (fsF co (c + 1)))), (10, .int (zI a10)), (11, .ref y), (12, .ref (y + 1)), (13, .ref (y + 2)), (14, .int (zI (c : Int)))]) (LC rfl (LC rfl (LC rfl (LC rfl (LC rfl (LC (vz (by show _ = sumZ (fun j => bz (co 3 j = 0)) c + bz (co 3 (c : Int) = 0); first | (rw [bz_t (by assumption)]; done) | (rw [bz_f (by assumption)]; omega))) (LC (vz (by rfl)) (LC (vz (by rfl)) (LC rfl (LC (vz (by rfl)) (LC rfl (LC rfl (LC rfl (LC rfl (LC rfl rfl))))))))))))))) ?_
              exact kk _ _ v1_3 (by omega) hM h_cm h_co h_hw h_w (PR.to h_sn (by rw [snF_s c rfl])) h_mt h_sq
            · skip
              exfalso; exact c_21 hdp.2
        · skip
          refine v_aload_n X dL_law_952 953 rfl 4 rfl ?_
          refine v_iload X dL_law_953 955 rfl 1 rfl ?_
          refine v_rdV X hM.C (PW.app h_cm.1 h_co.1) (c_X9_offenceOf l E x co 0 (-1) (-1) 0 (i : Int) hO (by omega) (by omega)) kvX9_offenceOf kiX9_offenceOf kl_L_142 rfl rfl (As := [.int (zI (i : Int))]) rfl rfl (rm_law0 rfl (by omega) (by omega)) dL_law_955 958 rfl ?_
          show V p l e room_1 s m args below meth cd Q 32 H16 lo16 (kq + 38) (nq + 2596) 958 [(24, .int (zI (sumZ (fun j => bz (co 3 j = 0 ∧ cbC co j (c : Int))) i))), (26, .int (zI (i : Int))), (5, .int (zI (sumZ (fun j => bz (co 3 j = 0)) c + 1))), (0, .ref (E 107 0)), (1, .ref x), (2, .int (zI t)), (3, .int (zI (co 0 0))), (4, .int (zI (co 0 1))), (6, .int (zI (sumZ (fun j => bz (co 3 j = 2)) c + bz (co 3 (c : Int) = 2)))), (7, .int (zI (sumZ (fun j => bz (¬ co 4 j = 0)) c + bz (¬ co 4 (c : Int) = 0)))), (8, .int (zI a8)), (9, .int (zI (fsF co c))), (10, .int (zI a10)), (11, .ref y), (12, .ref (y + 1)), (13, .ref (y + 2)), (14, .int (zI (c : Int))), (15, .int (zI (co 1 (c : Int)))), (16, .int (zI (co 2 (c : Int)))), (17, .int (zI (co 6 (c : Int)))), (18, .int (zI (vdC co (c : Int)))), (19, .int (zI (wsC co (c : Int) 1))), (20, .int (zI (wsC co (c : Int) (-1)))), (21, .int (zI (mgC co (c : Int)))), (22, .int (zI ((hrT co (c : Int) : Nat) : Int))), (23, .int (zI (hvC co (c : Int)))), (25, .ref b)] [.int (zI (co 2 (i : Int)))]
          have hb_26 := hO.b2 (i : Int)
          refine v_iload X dL_law_958 960 rfl 18 rfl ?_
          refine v_isub X dL_law_960 961 rfl ?_
          refine v_istore X dL_law_961 963 rfl (by decide) (L' := [(27, .int (zI (co 2 (i : Int) - co 2 (c : Int)))), (24, .int (zI (sumZ (fun j => bz (co 3 j = 0 ∧ cbC co j (c : Int))) i))), (26, .int (zI (i : Int))), (5, .int (zI (sumZ (fun j => bz (co 3 j = 0)) c + 1))), (0, .ref (E 107 0)), (1, .ref x), (2, .int (zI t)), (3, .int (zI (co 0 0))), (4, .int (zI (co 0 1))), (6, .int (zI (sumZ (fun j => bz (co 3 j = 2)) c + bz (co 3 (c : Int) = 2)))), (7, .int (zI (sumZ (fun j => bz (¬ co 4 j = 0)) c + bz (¬ co 4 (c : Int) = 0)))), (8, .int (zI a8)), (9, .int (zI (fsF co c))), (10, .int (zI a10)), (11, .ref y), (12, .ref (y + 1)), (13, .ref (y + 2)), (14, .int (zI (c : Int))), (15, .int (zI (co 1 (c : Int)))), (16, .int (zI (co 2 (c : Int)))), (17, .int (zI (co 6 (c : Int)))), (18, .int (zI (vdC co (c : Int)))), (19, .int (zI (wsC co (c : Int) 1))), (20, .int (zI (wsC co (c : Int) (-1)))), (21, .int (zI (mgC co (c : Int)))), (22, .int (zI ((hrT co (c : Int) : Nat) : Int))), (23, .int (zI (hvC co (c : Int)))), (25, .ref b)]) rfl ?_
          refine v_aload_n X dL_law_963 964 rfl 5 rfl ?_
          refine v_iload X dL_law_964 966 rfl 2 rfl ?_
          refine v_rdV X hM.C (PW.app h_cm.1 h_co.1) (c_X9_testimonyCount l E x co 0 (-1) (-1) 0 (i : Int) hO (by omega) (by omega)) kvX9_testimonyCount kiX9_testimonyCount kl_L_109 rfl rfl (As := [.int (zI (i : Int))]) rfl rfl (rm_law0 rfl (by omega) (by omega)) dL_law_966 969 rfl ?_
          show V p l e room_1 s m args below meth cd Q 32 H16 lo16 (kq + 38) (nq + 2596) 969 [(27, .int (zI (co 2 (i : Int) - co 2 (c : Int)))), (24, .int (zI (sumZ (fun j => bz (co 3 j = 0 ∧ cbC co j (c : Int))) i))), (26, .int (zI (i : Int))), (5, .int (zI (sumZ (fun j => bz (co 3 j = 0)) c + 1))), (0, .ref (E 107 0)), (1, .ref x), (2, .int (zI t)), (3, .int (zI (co 0 0))), (4, .int (zI (co 0 1))), (6, .int (zI (sumZ (fun j => bz (co 3 j = 2)) c + bz (co 3 (c : Int) = 2)))), (7, .int (zI (sumZ (fun j => bz (¬ co 4 j = 0)) c + bz (¬ co 4 (c : Int) = 0)))), (8, .int (zI a8)), (9, .int (zI (fsF co c))), (10, .int (zI a10)), (11, .ref y), (12, .ref (y + 1)), (13, .ref (y + 2)), (14, .int (zI (c : Int))), (15, .int (zI (co 1 (c : Int)))), (16, .int (zI (co 2 (c : Int)))), (17, .int (zI (co 6 (c : Int)))), (18, .int (zI (vdC co (c : Int)))), (19, .int (zI (wsC co (c : Int) 1))), (20, .int (zI (wsC co (c : Int) (-1)))), (21, .int (zI (mgC co (c : Int)))), (22, .int (zI ((hrT co (c : Int) : Nat) : Int))), (23, .int (zI (hvC co (c : Int)))), (25, .ref b)] [.int (zI (co 6 (i : Int)))]
          have hb_27 := hO.b6 (i : Int)
          refine v_iload X dL_law_969 971 rfl 20 rfl ?_
          refine v_isub X dL_law_971 972 rfl ?_
          refine v_istore X dL_law_972 974 rfl (by decide) (L' := [(28, .int (zI (co 6 (i : Int) - co 6 (c : Int)))), (27, .int (zI (co 2 (i : Int) - co 2 (c : Int)))), (24, .int (zI (sumZ (fun j => bz (co 3 j = 0 ∧ cbC co j (c : Int))) i))), (26, .int (zI (i : Int))), (5, .int (zI (sumZ (fun j => bz (co 3 j = 0)) c + 1))), (0, .ref (E 107 0)), (1, .ref x), (2, .int (zI t)), (3, .int (zI (co 0 0))), (4, .int (zI (co 0 1))), (6, .int (zI (sumZ (fun j => bz (co 3 j = 2)) c + bz (co 3 (c : Int) = 2)))), (7, .int (zI (sumZ (fun j => bz (¬ co 4 j = 0)) c + bz (¬ co 4 (c : Int) = 0)))), (8, .int (zI a8)), (9, .int (zI (fsF co c))), (10, .int (zI a10)), (11, .ref y), (12, .ref (y + 1)), (13, .ref (y + 2)), (14, .int (zI (c : Int))), (15, .int (zI (co 1 (c : Int)))), (16, .int (zI (co 2 (c : Int)))), (17, .int (zI (co 6 (c : Int)))), (18, .int (zI (vdC co (c : Int)))), (19, .int (zI (wsC co (c : Int) 1))), (20, .int (zI (wsC co (c : Int) (-1)))), (21, .int (zI (mgC co (c : Int)))), (22, .int (zI ((hrT co (c : Int) : Nat) : Int))), (23, .int (zI (hvC co (c : Int)))), (25, .ref b)]) rfl ?_
          refine v_iload X dL_law_974 976 rfl 2 rfl ?_
          suffices hJ976 : ∀ z9 : Int, z9 = (bz (co 3 (i : Int) = 0 ∧ cbC co (i : Int) (c : Int))) → V p l e room_1 s m args below meth cd Q 32 H16 lo16 (kq + 38) (nq + 2596) 1017 [(28, .int (zI (co 6 (i : Int) - co 6 (c : Int)))), (27, .int (zI (co 2 (i : Int) - co 2 (c : Int)))), (24, .int (zI (sumZ (fun j => bz (co 3 j = 0 ∧ cbC co j (c : Int))) i))), (26, .int (zI (i : Int))), (5, .int (zI (sumZ (fun j => bz (co 3 j = 0)) c + 1))), (0, .ref (E 107 0)), (1, .ref x), (2, .int (zI t)), (3, .int (zI (co 0 0))), (4, .int (zI (co 0 1))), (6, .int (zI (sumZ (fun j => bz (co 3 j = 2)) c + bz (co 3 (c : Int) = 2)))), (7, .int (zI (sumZ (fun j => bz (¬ co 4 j = 0)) c + bz (¬ co 4 (c : Int) = 0)))), (8, .int (zI a8)), (9, .int (zI (fsF co c))), (10, .int (zI a10)), (11, .ref y), (12, .ref (y + 1)), (13, .ref (y + 2)), (14, .int (zI (c : Int))), (15, .int (zI (co 1 (c : Int)))), (16, .int (zI (co 2 (c : Int)))), (17, .int (zI (co 6 (c : Int)))), (18, .int (zI (vdC co (c : Int)))), (19, .int (zI (wsC co (c : Int) 1))), (20, .int (zI (wsC co (c : Int) (-1)))), (21, .int (zI (mgC co (c : Int)))), (22, .int (zI ((hrT co (c : Int) : Nat) : Int))), (23, .int (zI (hvC co (c : Int)))), (25, .ref b)] [.int (zI z9), .int (zI (sumZ (fun j => bz (co 3 j = 0 ∧ cbC co j (c : Int))) i))] by
            refine v_aload_n X dL_law_976 977 rfl 6 rfl ?_
            refine v_iload X dL_law_977 979 rfl 3 rfl ?_
            refine v_rdV X hM.C (PW.app h_cm.1 h_co.1) (c_X9_isOpen l E x co 0 (-1) (-1) 0 (i : Int) hO (by omega) (by omega)) kvX9_isOpen kiX9_isOpen kl_L_186 rfl rfl (As := [.int (zI (i : Int))]) rfl rfl (rm_law0 rfl (by omega) (by omega)) dL_law_979 982 rfl ?_
            show V p l e room_1 s m args below meth cd Q 32 H16 lo16 (kq + 38) (nq + 2596) 982 [(28, .int (zI (co 6 (i : Int) - co 6 (c : Int)))), (27, .int (zI (co 2 (i : Int) - co 2 (c : Int)))), (24, .int (zI (sumZ (fun j => bz (co 3 j = 0 ∧ cbC co j (c : Int))) i))), (26, .int (zI (i : Int))), (5, .int (zI (sumZ (fun j => bz (co 3 j = 0)) c + 1))), (0, .ref (E 107 0)), (1, .ref x), (2, .int (zI t)), (3, .int (zI (co 0 0))), (4, .int (zI (co 0 1))), (6, .int (zI (sumZ (fun j => bz (co 3 j = 2)) c + bz (co 3 (c : Int) = 2)))), (7, .int (zI (sumZ (fun j => bz (¬ co 4 j = 0)) c + bz (¬ co 4 (c : Int) = 0)))), (8, .int (zI a8)), (9, .int (zI (fsF co c))), (10, .int (zI a10)), (11, .ref y), (12, .ref (y + 1)), (13, .ref (y + 2)), (14, .int (zI (c : Int))), (15, .int (zI (co 1 (c : Int)))), (16, .int (zI (co 2 (c : Int)))), (17, .int (zI (co 6 (c : Int)))), (18, .int (zI (vdC co (c : Int)))), (19, .int (zI (wsC co (c : Int) 1))), (20, .int (zI (wsC co (c : Int) (-1)))), (21, .int (zI (mgC co (c : Int)))), (22, .int (zI ((hrT co (c : Int) : Nat) : Int))), (23, .int (zI (hvC co (c : Int)))), (25, .ref b)] [.int (zI (bz (co 3 (i : Int) = 0))), .int (zI (sumZ (fun j => bz (co 3 j = 0 ∧ cbC co j (c : Int))) i))]
            refine v_bif_eq X dL_law_982 985 1016 rfl (by decide) (fun c_28 => ?_) (fun c_28 => ?_)
            · skip
              refine v_iconst X dL_law_1016 1017 rfl ?_
              exact hJ976 _ (by exact (bz_f (fun q9 => by have q8 : co 2 (c : Int) < co 2 (i : Int) ∨ (co 2 (i : Int) = co 2 (c : Int) ∧ (co 6 (c : Int) < co 6 (i : Int) ∨ (co 6 (i : Int) = co 6 (c : Int) ∧ (i : Int) < (c : Int)))) := q9.2; have q7 := q9.1; omega)).symm)
            · skip
              refine v_iload X dL_law_985 987 rfl 1 rfl ?_
              have hb_30 := hO.b2 (c : Int)
              refine v_if_gt X (by omega) dL_law_987 990 1012 rfl (by decide) (fun c_29 => ?_) (fun c_29 => ?_)
              · skip
                refine v_iconst X dL_law_1012 1013 rfl ?_
                refine v_goto X dL_law_1013 1017 (by decide) ?_
                exact hJ976 _ (by exact (bz_t ⟨by omega, by show co 2 (c : Int) < co 2 (i : Int) ∨ (co 2 (i : Int) = co 2 (c : Int) ∧ (co 6 (c : Int) < co 6 (i : Int) ∨ (co 6 (i : Int) = co 6 (c : Int) ∧ (i : Int) < (c : Int)))); omega⟩).symm)
              · skip
                refine v_iload X dL_law_990 992 rfl 1 rfl ?_
                refine v_if_ne X (by omega) dL_law_992 995 1016 rfl (by decide) (fun c_31 => ?_) (fun c_31 => ?_)
                · skip
                  refine v_iconst X dL_law_1016 1017 rfl ?_
                  exact hJ976 _ (by exact (bz_f (fun q9 => by have q8 : co 2 (c : Int) < co 2 (i : Int) ∨ (co 2 (i : Int) = co 2 (c : Int) ∧ (co 6 (c : Int) < co 6 (i : Int) ∨ (co 6 (i : Int) = co 6 (c : Int) ∧ (i : Int) < (c : Int)))) := q9.2; have q7 := q9.1; omega)).symm)
                · skip
                  refine v_iload X dL_law_995 997 rfl 0 rfl ?_
                  refine v_if_gt X (by omega) dL_law_997 1000 1012 rfl (by decide) (fun c_32 => ?_) (fun c_32 => ?_)
                  · skip
                    refine v_iconst X dL_law_1012 1013 rfl ?_
                    refine v_goto X dL_law_1013 1017 (by decide) ?_
                    exact hJ976 _ (by exact (bz_t ⟨by omega, by show co 2 (c : Int) < co 2 (i : Int) ∨ (co 2 (i : Int) = co 2 (c : Int) ∧ (co 6 (c : Int) < co 6 (i : Int) ∨ (co 6 (i : Int) = co 6 (c : Int) ∧ (i : Int) < (c : Int)))); omega⟩).symm)
                  · skip
                    refine v_iload X dL_law_1000 1002 rfl 0 rfl ?_
                    refine v_if_ne X (by omega) dL_law_1002 1005 1016 rfl (by decide) (fun c_33 => ?_) (fun c_33 => ?_)
                    · skip
                      refine v_iconst X dL_law_1016 1017 rfl ?_
                      exact hJ976 _ (by exact (bz_f (fun q9 => by have q8 : co 2 (c : Int) < co 2 (i : Int) ∨ (co 2 (i : Int) = co 2 (c : Int) ∧ (co 6 (c : Int) < co 6 (i : Int) ∨ (co 6 (i : Int) = co 6 (c : Int) ∧ (i : Int) < (c : Int)))) := q9.2; have q7 := q9.1; omega)).symm)
                    · skip
                      refine v_iload X dL_law_1005 1007 rfl 3 rfl ?_
                      refine v_iload X dL_law_1007 1009 rfl 18 rfl ?_
                      refine v_icmp_ge X (by omega) (by omega) dL_law_1009 1012 1016 rfl (by decide) (fun c_34 => ?_) (fun c_34 => ?_)
                      · skip
                        refine v_iconst X dL_law_1016 1017 rfl ?_
                        exact hJ976 _ (by exact (bz_f (fun q9 => by have q8 : co 2 (c : Int) < co 2 (i : Int) ∨ (co 2 (i : Int) = co 2 (c : Int) ∧ (co 6 (c : Int) < co 6 (i : Int) ∨ (co 6 (i : Int) = co 6 (c : Int) ∧ (i : Int) < (c : Int)))) := q9.2; have q7 := q9.1; omega)).symm)
                      · skip
                        refine v_iconst X dL_law_1012 1013 rfl ?_
                        refine v_goto X dL_law_1013 1017 (by decide) ?_
                        exact hJ976 _ (by exact (bz_t ⟨by omega, by show co 2 (c : Int) < co 2 (i : Int) ∨ (co 2 (i : Int) = co 2 (c : Int) ∧ (co 6 (c : Int) < co 6 (i : Int) ∨ (co 6 (i : Int) = co 6 (c : Int) ∧ (i : Int) < (c : Int)))); omega⟩).symm)
          intro z9 hz9
          subst hz9
          refine v_iadd X dL_law_1017 1018 rfl ?_
          refine v_istore X dL_law_1018 1020 rfl (by decide) (L' := [(24, .int (zI (sumZ (fun j => bz (co 3 j = 0 ∧ cbC co j (c : Int))) i + bz ((co 3 (i : Int) = 0 ∧ cbC co (i : Int) (c : Int)))))), (28, .int (zI (co 6 (i : Int) - co 6 (c : Int)))), (27, .int (zI (co 2 (i : Int) - co 2 (c : Int)))), (26, .int (zI (i : Int))), (5, .int (zI (sumZ (fun j => bz (co 3 j = 0)) c + 1))), (0, .ref (E 107 0)), (1, .ref x), (2, .int (zI t)), (3, .int (zI (co 0 0))), (4, .int (zI (co 0 1))), (6, .int (zI (sumZ (fun j => bz (co 3 j = 2)) c + bz (co 3 (c : Int) = 2)))), (7, .int (zI (sumZ (fun j => bz (¬ co 4 j = 0)) c + bz (¬ co 4 (c : Int) = 0)))), (8, .int (zI a8)), (9, .int (zI (fsF co c))), (10, .int (zI a10)), (11, .ref y), (12, .ref (y + 1)), (13, .ref (y + 2)), (14, .int (zI (c : Int))), (15, .int (zI (co 1 (c : Int)))), (16, .int (zI (co 2 (c : Int)))), (17, .int (zI (co 6 (c : Int)))), (18, .int (zI (vdC co (c : Int)))), (19, .int (zI (wsC co (c : Int) 1))), (20, .int (zI (wsC co (c : Int) (-1)))), (21, .int (zI (mgC co (c : Int)))), (22, .int (zI ((hrT co (c : Int) : Nat) : Int))), (23, .int (zI (hvC co (c : Int)))), (25, .ref b)]) rfl ?_
          refine v_iinc X dL_law_1020 1023 rfl 3 rfl (by decide) (L' := [(26, .int (zI ((i : Int) + 1))), (24, .int (zI (sumZ (fun j => bz (co 3 j = 0 ∧ cbC co j (c : Int))) i + bz ((co 3 (i : Int) = 0 ∧ cbC co (i : Int) (c : Int)))))), (28, .int (zI (co 6 (i : Int) - co 6 (c : Int)))), (27, .int (zI (co 2 (i : Int) - co 2 (c : Int)))), (5, .int (zI (sumZ (fun j => bz (co 3 j = 0)) c + 1))), (0, .ref (E 107 0)), (1, .ref x), (2, .int (zI t)), (3, .int (zI (co 0 0))), (4, .int (zI (co 0 1))), (6, .int (zI (sumZ (fun j => bz (co 3 j = 2)) c + bz (co 3 (c : Int) = 2)))), (7, .int (zI (sumZ (fun j => bz (¬ co 4 j = 0)) c + bz (¬ co 4 (c : Int) = 0)))), (8, .int (zI a8)), (9, .int (zI (fsF co c))), (10, .int (zI a10)), (11, .ref y), (12, .ref (y + 1)), (13, .ref (y + 2)), (14, .int (zI (c : Int))), (15, .int (zI (co 1 (c : Int)))), (16, .int (zI (co 2 (c : Int)))), (17, .int (zI (co 6 (c : Int)))), (18, .int (zI (vdC co (c : Int)))), (19, .int (zI (wsC co (c : Int) 1))), (20, .int (zI (wsC co (c : Int) (-1)))), (21, .int (zI (mgC co (c : Int)))), (22, .int (zI ((hrT co (c : Int) : Nat) : Int))), (23, .int (zI (hvC co (c : Int)))), (25, .ref b)]) rfl ?_
          refine v_goto X dL_law_1023 946 (by decide) ?_
          refine v_locals [1, 0, 4, 5, 6, 7, 8, 9, 10, 11, 12, 13, 14, 15, 16, 17, 18, 19, 20, 21, 22, 23, 24, 25, 26, 27, 28] (L' := [(24, .int (zI (sumZ (fun j => bz (co 3 j = 0 ∧ cbC co j (c : Int))) i + bz ((co 3 (i : Int) = 0 ∧ cbC co (i : Int) (c : Int)))))), (26, .int (zI ((i : Int) + 1))), (5, .int (zI (sumZ (fun j => bz (co 3 j = 0)) c + 1))), (0, .ref (E 107 0)), (1, .ref x), (2, .int (zI t)), (3, .int (zI (co 0 0))), (4, .int (zI (co 0 1))), (6, .int (zI (sumZ (fun j => bz (co 3 j = 2)) c + bz (co 3 (c : Int) = 2)))), (7, .int (zI (sumZ (fun j => bz (¬ co 4 j = 0)) c + bz (¬ co 4 (c : Int) = 0)))), (8, .int (zI a8)), (9, .int (zI (fsF co c))), (10, .int (zI a10)), (11, .ref y), (12, .ref (y + 1)), (13, .ref (y + 2)), (14, .int (zI (c : Int))), (15, .int (zI (co 1 (c : Int)))), (16, .int (zI (co 2 (c : Int)))), (17, .int (zI (co 6 (c : Int)))), (18, .int (zI (vdC co (c : Int)))), (19, .int (zI (wsC co (c : Int) 1))), (20, .int (zI (wsC co (c : Int) (-1)))), (21, .int (zI (mgC co (c : Int)))), (22, .int (zI ((hrT co (c : Int) : Nat) : Int))), (23, .int (zI (hvC co (c : Int)))), (25, .ref b)]) rfl ?_
          have hb_35 := hO.b3 (i : Int)
          have hb_36 := hO.bw
          have hb_37 := hO.b3 (c : Int)
          have hb_38 := hO.b4 (c : Int)
          have hb_39 := hO.b2 (c : Int)
          exact V_L (L' := [(24, .int (zI (sumZ (fun j => bz (co 3 j = 0 ∧ cbC co j (c : Int))) (i + 1)))), (26, .int (zI ((i + 1 : Nat) : Int))), (5, .int (zI (sumZ (fun j => bz (co 3 j = 0)) c + 1))), (0, .ref (E 107 0)), (1, .ref x), (2, .int (zI t)), (3, .int (zI (co 0 0))), (4, .int (zI (co 0 1))), (6, .int (zI (sumZ (fun j => bz (co 3 j = 2)) c + bz (co 3 (c : Int) = 2)))), (7, .int (zI (sumZ (fun j => bz (¬ co 4 j = 0)) c + bz (¬ co 4 (c : Int) = 0)))), (8, .int (zI a8)), (9, .int (zI (fsF co c))), (10, .int (zI a10)), (11, .ref y), (12, .ref (y + 1)), (13, .ref (y + 2)), (14, .int (zI (c : Int))), (15, .int (zI (co 1 (c : Int)))), (16, .int (zI (co 2 (c : Int)))), (17, .int (zI (co 6 (c : Int)))), (18, .int (zI (vdC co (c : Int)))), (19, .int (zI (wsC co (c : Int) 1))), (20, .int (zI (wsC co (c : Int) (-1)))), (21, .int (zI (mgC co (c : Int)))), (22, .int (zI ((hrT co (c : Int) : Nat) : Int))), (23, .int (zI (hvC co (c : Int)))), (25, .ref b)]) (LC (vz (by rfl)) (LC (vz (by omega)) (LC rfl (LC rfl (LC rfl (LC rfl (LC rfl (LC rfl (LC rfl (LC rfl (LC rfl (LC rfl (LC rfl (LC rfl (LC rfl (LC rfl (LC rfl (LC rfl (LC rfl (LC rfl (LC rfl (LC rfl (LC rfl (LC rfl (LC rfl (LC rfl (LC rfl rfl))))))))))))))))))))))))))) (ih_i (by omega) _ _ hM h_cm h_co h_hw h_w h_sn h_mt h_sq h_ls)
      · skip
        refine v_aload_n X dL_law_926 927 rfl 3 rfl ?_
        refine v_iload X dL_law_927 929 rfl 14 rfl ?_
        have hb_40 := hO.b3 (c : Int)
        refine v_mwS X hM (w_X9_docketPosition_1_t l hl E x co 0 (-1) (-1) 0 (c : Int) hO (by omega) (by omega) (by omega)) kwL_docketPosition ksL_docketPosition kl_L_234 (As := [.ref x, .int (zI (c : Int))]) rfl rfl (rm_lawW rfl (by omega) (by omega)) dL_law_929 932 rfl (k' := kq + 39) (n' := nq + 2602) rfl rfl (fun q hq => hq.elim) ⟨h_cm, h_co⟩ (fun rv H41 lo41 hM hF hpo => ?_)
        subst hpo
        replace h_cm := h_cm.kept hF 1 rfl (fun q _ _ h => h.elim)
        replace h_co := h_co.kept hF 28 rfl (fun q _ _ h => h.elim)
        replace h_hw := h_hw.kept hF (fun q _ _ h => h.elim)
        replace h_w := h_w.kept hF (fun q _ h => h.elim)
        replace h_sn := h_sn.kept hF 1 rfl (fun q _ _ h => h.elim)
        replace h_mt := h_mt.kept hF 1 rfl (fun q _ _ h => h.elim)
        replace h_sq := h_sq.kept hF 1 rfl (fun q _ _ h => h.elim)
        replace h_ls := h_ls.kept hF (fun q _ _ h => h.elim)
        show V p l e room_1 s m args below meth cd Q 32 H41 lo41 (kq + 39) (nq + 2602) 932 [(7, .int (zI (sumZ (fun j => bz (¬ co 4 j = 0)) c + bz ((¬ co 4 (c : Int) = 0))))), (6, .int (zI (sumZ (fun j => bz (co 3 j = 2)) c + bz ((co 3 (c : Int) = 2))))), (0, .ref (E 107 0)), (1, .ref x), (2, .int (zI t)), (3, .int (zI (co 0 0))), (4, .int (zI (co 0 1))), (5, .int (zI (sumZ (fun j => bz (co 3 j = 0)) c))), (8, .int (zI a8)), (9, .int (zI (fsF co c))), (10, .int (zI a10)), (11, .ref y), (12, .ref (y + 1)), (13, .ref (y + 2)), (14, .int (zI (c : Int))), (15, .int (zI (co 1 (c : Int)))), (16, .int (zI (co 2 (c : Int)))), (17, .int (zI (co 6 (c : Int)))), (18, .int (zI (vdC co (c : Int)))), (19, .int (zI (wsC co (c : Int) 1))), (20, .int (zI (wsC co (c : Int) (-1)))), (21, .int (zI (mgC co (c : Int)))), (22, .int (zI ((hrT co (c : Int) : Nat) : Int))), (23, .int (zI (hvC co (c : Int)))), (24, .int (zI 0)), (25, .ref b)] [.int (zI (-10000))]
        refine v_sipush X dL_law_932 935 rfl rfl ?_
        refine v_icmp_eq X (by omega) (by omega) dL_law_935 938 1083 rfl (by decide) (fun c_42 => ?_) (fun c_42 => ?_)
        · skip
          refine v_widen (k' := kq + 60) (n' := nq + 3000) (by omega) (by omega) ?_
          refine v_locals [2, 3, 4, 5, 6, 7, 1, 0, 8, 9, 10, 11, 12, 13, 14] (L' := [(0, .ref (E 107 0)), (1, .ref x), (2, .int (zI t)), (3, .int (zI (co 0 0))), (4, .int (zI (co 0 1))), (5, .int (zI (sumZ (fun j => bz (co 3 j = 0)) c))), (6, .int (zI (sumZ (fun j => bz (co 3 j = 2)) c + bz ((co 3 (c : Int) = 2))))), (7, .int (zI (sumZ (fun j => bz (¬ co 4 j = 0)) c + bz ((¬ co 4 (c : Int) = 0))))), (8, .int (zI a8)), (9, .int (zI (fsF co c))), (10, .int (zI a10)), (11, .ref y), (12, .ref (y + 1)), (13, .ref (y + 2)), (14, .int (zI (c : Int)))]) rfl ?_
          refine V_L (L' := [(0, .ref (E 107 0)), (1, .ref x), (2, .int (zI t)), (3, .int (zI (co 0 0))), (4, .int (zI (co 0 1))), (5, .int (zI (sumZ (fun j => bz (co 3 j = 0)) (c + 1)))), (6, .int (zI (sumZ (fun j => bz (co 3 j = 2)) (c + 1)))), (7, .int (zI (sumZ (fun j => bz (¬ co 4 j = 0)) (c + 1)))), (8, .int (zI a8)), (9, .int (zI (fsF co (c + 1)))), (10, .int (zI a10)), (11, .ref y), (12, .ref (y + 1)), (13, .ref (y + 2)), (14, .int (zI (c : Int)))]) (LC rfl (LC rfl (LC rfl (LC rfl (LC rfl (LC (vz (by show _ = sumZ (fun j => bz (co 3 j = 0)) c + bz (co 3 (c : Int) = 0); first | (rw [bz_t (by assumption)]; done) | (rw [bz_f (by assumption)]; omega))) (LC (vz (by rfl)) (LC (vz (by rfl)) (LC rfl (LC (vz (by exact fsF_s (by rw [if_neg (fun q9 => (show ¬ co 3 (c : Int) = 0 by assumption) q9.1)]))) (LC rfl (LC rfl (LC rfl (LC rfl (LC rfl rfl))))))))))))))) ?_
          exact kk _ _ v1_3 (by omega) hM h_cm h_co h_hw h_w (PR.to h_sn (by rw [snF_s c rfl])) h_mt h_sq
        · skip
          exfalso; omega
    · skip
      exfalso; exact c_9 rfl
end LAWSEG
