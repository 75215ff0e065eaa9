theorem xl_L_13 : Cond.classLink RL 13 "java/lang/IllegalArgumentException" ∈ WA := WA_of (i := 607) (by decide +kernel) (by decide +kernel)
theorem xl_L_15 : Cond.classLink RL 15 "java/lang/IllegalStateException" ∈ WA := WA_of (i := 608) (by decide +kernel) (by decide +kernel)
theorem xl_L_25 : Cond.classLink RL 25 "java/lang/IndexOutOfBoundsException" ∈ WA := WA_of (i := 880) (by decide +kernel) (by decide +kernel)
theorem xl_L_31 : Cond.classLink RL 31 "java/util/NoSuchElementException" ∈ WA := WA_of (i := 908) (by decide +kernel) (by decide +kernel)
theorem xl_L_145 : Cond.classLink RL 145 "java/lang/ArithmeticException" ∈ WA := WA_of (i := 1241) (by decide +kernel) (by decide +kernel)
theorem xl_L_168 : Cond.classLink RL 168 "java/lang/UnsupportedOperationException" ∈ WA := WA_of (i := 1601) (by decide +kernel) (by decide +kernel)
theorem xc_IAE : Cond.castable "java/lang/IllegalArgumentException" "java/lang/IllegalArgumentException" ∈ WN := WN_of (i := 757) (by decide +kernel) (by decide +kernel)
theorem xc_ISE : Cond.castable "java/lang/IllegalStateException" "java/lang/IllegalStateException" ∈ WN := WN_of (i := 791) (by decide +kernel) (by decide +kernel)
theorem xc_IOB : Cond.castable "java/lang/IndexOutOfBoundsException" "java/lang/IndexOutOfBoundsException" ∈ WN := WN_of (i := 684) (by decide +kernel) (by decide +kernel)
theorem xc_NSE : Cond.castable "java/util/NoSuchElementException" "java/util/NoSuchElementException" ∈ WN := WN_of (i := 774) (by decide +kernel) (by decide +kernel)
theorem xc_ARI : Cond.castable "java/lang/ArithmeticException" "java/lang/ArithmeticException" ∈ WN := WN_of (i := 1253) (by decide +kernel) (by decide +kernel)
theorem xc_UOE : Cond.castable "java/lang/UnsupportedOperationException" "java/lang/UnsupportedOperationException" ∈ WN := WN_of (i := 1685) (by decide +kernel) (by decide +kernel)
set_option maxHeartbeats 4000000 in
set_option maxRecDepth 20000 in
theorem w_X9_caseOf (l : Launch) (hl : l.stackTraces = false) (E : Nat → Nat → Nat) (x : Nat) (co : Nat → Int → Int) (hs : Int) (er : Int) (fa : Int) (ss : Int) (d : Int) (o : Int) (oa : Nat) (lg : Nat → Int64) (hO : OkC co) (gd : Rg d) (go : Rg o) (k0 : (0 ≤ d ∧ d < 6) ∧ (0 ≤ o ∧ o < 5)) (k1 : 0 ≤ firstZ (fun j => co 1 j = d ∧ co 2 j = o) (co 0 0).toNat) (hd_cm_out : x + 1 ≤ oa ∨ oa + 1 ≤ x) (hd_co_out : x + 1 + 28 ≤ oa ∨ oa + 1 ≤ x + 1) : MuW l yL_caseOf cL_caseOf 5 (some .int) [(0, 10, 13, 13), (0, 10, 17, 31)] 3 1 6 E [(oa, 1)] [.ref x, .int (zI d), .int (zI o), .ref oa] (fun H => PR E x [(x, .inr (11, [.ref (x + 1), .ref (x + 29), .ref (x + 57), .ref (x + 85), .ref (x + 311), .ref (x + 314), .ref (x + 319), .ref (x + 332), .int (zI hs), .int (zI er), .int (zI fa), .int (zI ss)]))] H ∧ PR E (x + 1) (courtW E (x + 1) co) H ∧ PR E oa [(oa, .inl (E 102 4, 1, .inr (.inl lg)))] H) (fun rv H => rv = some (.int (zI 0)) ∧ (PR E oa [(oa, .inl (E 102 4, 1, .inr (.inl (fun _ => zL (firstZ (fun j => co 1 j = d ∧ co 2 j = o) (co 0 0).toNat)))))] H)) := by
  refine MuW.start (own := RL) rfl (by decide +kernel) (Nat.le_of_ble_eq_true rfl) ?_
  intro p e s m below meth cd args Q hQ X hr hlk htab hM hPr
  obtain ⟨h_cm, h_co, h_out⟩ := hPr
  refine v_aload_n X dL_caseOf_0 1 rfl 3 rfl ?_
  refine v_iconst X dL_caseOf_1 2 rfl ?_
  refine v_aload_n X dL_caseOf_2 3 rfl 0 rfl ?_
  refine v_iload_n X dL_caseOf_3 4 rfl 1 rfl ?_
  refine v_iload_n X dL_caseOf_4 5 rfl 2 rfl ?_
  refine v_rdV X hM.C (PW.app h_cm.1 h_co.1) (c_X9_caseOf l E x co hs er fa ss d o hO gd go k0 k1) kvX9_caseOf kiX9_caseOf kl_L_43 rfl rfl (As := [.int (zI d), .int (zI o)]) rfl rfl rfl dL_caseOf_5 8 rfl ?_
  show V p l e (rmL 3 1 6) s m args below meth cd Q 5 s.heap [] 0 0 8 [(0, .ref x), (1, .int (zI d)), (2, .int (zI o)), (3, .ref oa)] [.int (zI (firstZ (fun j => co 1 j = d ∧ co 2 j = o) (co 0 0).toNat)), .int (zI 0), .ref oa]
  have hb_1 := hO.b0
  refine v_i2l X dL_caseOf_8 9 rfl ?_
  refine v_last X hM h_out 0 rfl (Or.inl (fsH (by omega) (by omega))) dL_caseOf_9 10 rfl (ws' := [(oa, .inl (E 102 4, 1, .inr (.inl (fun _ => zL (firstZ (fun j => co 1 j = d ∧ co 2 j = o) (co 0 0).toNat)))))]) rfl (fun H2 lo2 hzz hM hF h_out => ?_)
  clear hzz
  replace h_cm := h_cm.kept hF 1 rfl (fsd (by omega))
  replace h_co := h_co.kept hF 28 rfl (fsd (by omega))
  refine v_goto X dL_caseOf_10 21 (by decide) ?_
  refine v_iconst X dL_caseOf_21 22 rfl ?_
  subst hQ; exact m_iret X hr hlk hM dL_caseOf_22 rfl ⟨rfl, h_out⟩
set_option maxHeartbeats 4000000 in
set_option maxRecDepth 20000 in
theorem w_X9_caseOf_0_t (l : Launch) (hl : l.stackTraces = false) (E : Nat → Nat → Nat) (x : Nat) (co : Nat → Int → Int) (hs : Int) (er : Int) (fa : Int) (ss : Int) (d : Int) (o : Int) (oa : Nat) (lg : Nat → Int64) (hO : OkC co) (gd : Rg d) (go : Rg o) (nk : ¬ ((0 ≤ d ∧ d < 6) ∧ (0 ≤ o ∧ o < 5))) : MuW l yL_caseOf cL_caseOf 5 (some .int) [(0, 10, 13, 13), (0, 10, 17, 31)] 7 1 6 E [] [.ref x, .int (zI d), .int (zI o), .ref oa] (fun H => PR E x [(x, .inr (11, [.ref (x + 1), .ref (x + 29), .ref (x + 57), .ref (x + 85), .ref (x + 311), .ref (x + 314), .ref (x + 319), .ref (x + 332), .int (zI hs), .int (zI er), .int (zI fa), .int (zI ss)]))] H ∧ PR E (x + 1) (courtW E (x + 1) co) H ∧ PR E oa [(oa, .inl (E 102 4, 1, .inr (.inl lg)))] H) (fun rv H => rv = some (.int (zI 1))) := by
  refine MuW.start (own := RL) rfl (by decide +kernel) (Nat.le_of_ble_eq_true rfl) ?_
  intro p e s m below meth cd args Q hQ X hr hlk htab hM hPr
  obtain ⟨h_cm, h_co, h_out⟩ := hPr
  refine v_aload_n X dL_caseOf_0 1 rfl 3 rfl ?_
  refine v_iconst X dL_caseOf_1 2 rfl ?_
  refine v_aload_n X dL_caseOf_2 3 rfl 0 rfl ?_
  refine v_iload_n X dL_caseOf_3 4 rfl 1 rfl ?_
  refine v_iload_n X dL_caseOf_4 5 rfl 2 rfl ?_
  have hht : HT RL "java/lang/IllegalArgumentException" s [(0, 10, 13, 13), (0, 10, 17, 31)] 5 0 13 := ⟨(0, 10, 13, 13), rfl, rfl, by decide, by decide, xl_L_13, xc_IAE, by
    intro i z hi hz
    omega⟩
  refine v_txC X htab hM (h_cm.1) (x_X9_caseOf_0 l hl E x co hs er fa ss d o hO gd go nk) kvX9_caseOf kiX9_caseOf kl_L_43 (q0 := 0) rfl rfl (As := [.int (zI d), .int (zI o)]) rfl rfl rfl dL_caseOf_5 0 13 hht (k' := 1) (n' := 6) rfl rfl (fun q hq => hq.elim) ⟨h_cm, h_co⟩ (fun q9 H1 lo1 hM hF hpo => ?_)
  replace h_cm := h_cm.kept hF 1 rfl (fun q _ _ h => h.elim)
  replace h_co := h_co.kept hF 28 rfl (fun q _ _ h => h.elim)
  replace h_out := h_out.kept hF 1 rfl (fun q _ _ h => h.elim)
  show V p l e (rmL 7 1 6) s m args below meth cd Q 5 H1 lo1 1 6 13 [(0, .ref x), (1, .int (zI d)), (2, .int (zI o)), (3, .ref oa)] [.ref q9]
  refine v_astore X dL_caseOf_13 15 rfl (by decide) (L' := [(4, .ref q9), (0, .ref x), (1, .int (zI d)), (2, .int (zI o)), (3, .ref oa)]) rfl ?_
  refine v_iconst X dL_caseOf_15 16 rfl ?_
  subst hQ; exact m_iret X hr hlk hM dL_caseOf_16 rfl rfl
set_option maxHeartbeats 4000000 in
set_option maxRecDepth 20000 in
theorem w_X9_caseOf_1_t (l : Launch) (hl : l.stackTraces = false) (E : Nat → Nat → Nat) (x : Nat) (co : Nat → Int → Int) (hs : Int) (er : Int) (fa : Int) (ss : Int) (d : Int) (o : Int) (oa : Nat) (lg : Nat → Int64) (hO : OkC co) (gd : Rg d) (go : Rg o) (k0 : (0 ≤ d ∧ d < 6) ∧ (0 ≤ o ∧ o < 5)) (nk : ¬ (0 ≤ firstZ (fun j => co 1 j = d ∧ co 2 j = o) (co 0 0).toNat)) : MuW l yL_caseOf cL_caseOf 5 (some .int) [(0, 10, 13, 13), (0, 10, 17, 31)] 7 1 6 E [] [.ref x, .int (zI d), .int (zI o), .ref oa] (fun H => PR E x [(x, .inr (11, [.ref (x + 1), .ref (x + 29), .ref (x + 57), .ref (x + 85), .ref (x + 311), .ref (x + 314), .ref (x + 319), .ref (x + 332), .int (zI hs), .int (zI er), .int (zI fa), .int (zI ss)]))] H ∧ PR E (x + 1) (courtW E (x + 1) co) H ∧ PR E oa [(oa, .inl (E 102 4, 1, .inr (.inl lg)))] H) (fun rv H => rv = some (.int (zI 2))) := by
  refine MuW.start (own := RL) rfl (by decide +kernel) (Nat.le_of_ble_eq_true rfl) ?_
  intro p e s m below meth cd args Q hQ X hr hlk htab hM hPr
  obtain ⟨h_cm, h_co, h_out⟩ := hPr
  refine v_aload_n X dL_caseOf_0 1 rfl 3 rfl ?_
  refine v_iconst X dL_caseOf_1 2 rfl ?_
  refine v_aload_n X dL_caseOf_2 3 rfl 0 rfl ?_
  refine v_iload_n X dL_caseOf_3 4 rfl 1 rfl ?_
  refine v_iload_n X dL_caseOf_4 5 rfl 2 rfl ?_
  have hht : HT RL "java/util/NoSuchElementException" s [(0, 10, 13, 13), (0, 10, 17, 31)] 5 1 17 := ⟨(0, 10, 17, 31), rfl, rfl, by decide, by decide, xl_L_31, xc_NSE, by
    intro i z hi hz
    rcases (show i = 0 by omega) with rfl
    · cases hz; exact ⟨by decide, _, xl_L_13, hM.C.2.2.2.2.2.2.1 3 0 _ _ (by decide) rfl rfl⟩⟩
  refine v_txC X htab hM (h_cm.1) (x_X9_caseOf_1 l hl E x co hs er fa ss d o hO gd go k0 nk) kvX9_caseOf kiX9_caseOf kl_L_43 (q0 := 0) rfl rfl (As := [.int (zI d), .int (zI o)]) rfl rfl rfl dL_caseOf_5 1 17 hht (k' := 1) (n' := 6) rfl rfl (fun q hq => hq.elim) ⟨h_cm, h_co⟩ (fun q9 H1 lo1 hM hF hpo => ?_)
  replace h_cm := h_cm.kept hF 1 rfl (fun q _ _ h => h.elim)
  replace h_co := h_co.kept hF 28 rfl (fun q _ _ h => h.elim)
  replace h_out := h_out.kept hF 1 rfl (fun q _ _ h => h.elim)
  show V p l e (rmL 7 1 6) s m args below meth cd Q 5 H1 lo1 1 6 17 [(0, .ref x), (1, .int (zI d)), (2, .int (zI o)), (3, .ref oa)] [.ref q9]
  refine v_astore X dL_caseOf_17 19 rfl (by decide) (L' := [(4, .ref q9), (0, .ref x), (1, .int (zI d)), (2, .int (zI o)), (3, .ref oa)]) rfl ?_
  refine v_iconst X dL_caseOf_19 20 rfl ?_
  subst hQ; exact m_iret X hr hlk hM dL_caseOf_20 rfl rfl
set_option maxHeartbeats 4000000 in
set_option maxRecDepth 20000 in
theorem w_X9_defendantOf (l : Launch) (hl : l.stackTraces = false) (E : Nat → Nat → Nat) (x : Nat) (co : Nat → Int → Int) (hs : Int) (er : Int) (fa : Int) (ss : Int) (k : Int) (oa : Nat) (lg : Nat → Int64) (hO : OkC co) (gk : Rg k) (k0 : 0 ≤ k ∧ k < co 0 0) (hd_cm_out : x + 1 ≤ oa ∨ oa + 1 ≤ x) (hd_co_out : x + 1 + 28 ≤ oa ∨ oa + 1 ≤ x + 1) : MuW l yL_defendantOf cL_defendantOf 4 (some .int) [(0, 9, 12, 25)] 3 1 6 E [(oa, 1)] [.ref x, .int (zI k), .ref oa] (fun H => PR E x [(x, .inr (11, [.ref (x + 1), .ref (x + 29), .ref (x + 57), .ref (x + 85), .ref (x + 311), .ref (x + 314), .ref (x + 319), .ref (x + 332), .int (zI hs), .int (zI er), .int (zI fa), .int (zI ss)]))] H ∧ PR E (x + 1) (courtW E (x + 1) co) H ∧ PR E oa [(oa, .inl (E 102 4, 1, .inr (.inl lg)))] H) (fun rv H => rv = some (.int (zI 0)) ∧ PR E oa [(oa, .inl (E 102 4, 1, .inr (.inl (fun _ => zL (co 1 k)))))] H) := by
  refine MuW.start (own := RL) rfl (by decide +kernel) (Nat.le_of_ble_eq_true rfl) ?_
  intro p e s m below meth cd args Q hQ X hr hlk htab hM hPr
  obtain ⟨h_cm, h_co, h_out⟩ := hPr
  refine v_aload_n X dL_defendantOf_0 1 rfl 2 rfl ?_
  refine v_iconst X dL_defendantOf_1 2 rfl ?_
  refine v_aload_n X dL_defendantOf_2 3 rfl 0 rfl ?_
  refine v_iload_n X dL_defendantOf_3 4 rfl 1 rfl ?_
  refine v_rdV X hM.C (PW.app h_cm.1 h_co.1) (c_X9_defendantOf l E x co hs er fa ss k hO gk k0) kvX9_defendantOf kiX9_defendantOf kl_L_46 rfl rfl (As := [.int (zI k)]) rfl rfl rfl dL_defendantOf_4 7 rfl ?_
  show V p l e (rmL 3 1 6) s m args below meth cd Q 4 s.heap [] 0 0 7 [(0, .ref x), (1, .int (zI k)), (2, .ref oa)] [.int (zI (co 1 k)), .int (zI 0), .ref oa]
  have hb_1 := hO.b1 k
  refine v_i2l X dL_defendantOf_7 8 rfl ?_
  refine v_last X hM h_out 0 rfl (Or.inl (fsH (by omega) (by omega))) dL_defendantOf_8 9 rfl (ws' := [(oa, .inl (E 102 4, 1, .inr (.inl (fun _ => zL (co 1 k)))))]) rfl (fun H2 lo2 hzz hM hF h_out => ?_)
  clear hzz
  replace h_cm := h_cm.kept hF 1 rfl (fsd (by omega))
  replace h_co := h_co.kept hF 28 rfl (fsd (by omega))
  refine v_goto X dL_defendantOf_9 15 (by decide) ?_
  refine v_iconst X dL_defendantOf_15 16 rfl ?_
  subst hQ; exact m_iret X hr hlk hM dL_defendantOf_16 rfl ⟨rfl, h_out⟩
set_option maxHeartbeats 4000000 in
set_option maxRecDepth 20000 in
theorem w_X9_defendantOf_0_t (l : Launch) (hl : l.stackTraces = false) (E : Nat → Nat → Nat) (x : Nat) (co : Nat → Int → Int) (hs : Int) (er : Int) (fa : Int) (ss : Int) (k : Int) (oa : Nat) (lg : Nat → Int64) (hO : OkC co) (gk : Rg k) (nk : ¬ (0 ≤ k ∧ k < co 0 0)) : MuW l yL_defendantOf cL_defendantOf 4 (some .int) [(0, 9, 12, 25)] 8 1 6 E [] [.ref x, .int (zI k), .ref oa] (fun H => PR E x [(x, .inr (11, [.ref (x + 1), .ref (x + 29), .ref (x + 57), .ref (x + 85), .ref (x + 311), .ref (x + 314), .ref (x + 319), .ref (x + 332), .int (zI hs), .int (zI er), .int (zI fa), .int (zI ss)]))] H ∧ PR E (x + 1) (courtW E (x + 1) co) H ∧ PR E oa [(oa, .inl (E 102 4, 1, .inr (.inl lg)))] H) (fun rv H => rv = some (.int (zI 1))) := by
  refine MuW.start (own := RL) rfl (by decide +kernel) (Nat.le_of_ble_eq_true rfl) ?_
  intro p e s m below meth cd args Q hQ X hr hlk htab hM hPr
  obtain ⟨h_cm, h_co, h_out⟩ := hPr
  refine v_aload_n X dL_defendantOf_0 1 rfl 2 rfl ?_
  refine v_iconst X dL_defendantOf_1 2 rfl ?_
  refine v_aload_n X dL_defendantOf_2 3 rfl 0 rfl ?_
  refine v_iload_n X dL_defendantOf_3 4 rfl 1 rfl ?_
  have hht : HT RL "java/lang/IndexOutOfBoundsException" s [(0, 9, 12, 25)] 4 0 12 := ⟨(0, 9, 12, 25), rfl, rfl, by decide, by decide, xl_L_25, xc_IOB, by
    intro i z hi hz
    omega⟩
  refine v_txC X htab hM (h_cm.1) (x_X9_defendantOf_0 l hl E x co hs er fa ss k hO gk nk) kvX9_defendantOf kiX9_defendantOf kl_L_46 (q0 := 0) rfl rfl (As := [.int (zI k)]) rfl rfl rfl dL_defendantOf_4 0 12 hht (k' := 1) (n' := 6) rfl rfl (fun q hq => hq.elim) ⟨h_cm, h_co⟩ (fun q9 H1 lo1 hM hF hpo => ?_)
  replace h_cm := h_cm.kept hF 1 rfl (fun q _ _ h => h.elim)
  replace h_co := h_co.kept hF 28 rfl (fun q _ _ h => h.elim)
  replace h_out := h_out.kept hF 1 rfl (fun q _ _ h => h.elim)
  show V p l e (rmL 8 1 6) s m args below meth cd Q 4 H1 lo1 1 6 12 [(0, .ref x), (1, .int (zI k)), (2, .ref oa)] [.ref q9]
  refine v_astore_n X dL_defendantOf_12 13 rfl rfl (by decide) (L' := [(3, .ref q9), (0, .ref x), (1, .int (zI k)), (2, .ref oa)]) rfl ?_
  refine v_iconst X dL_defendantOf_13 14 rfl ?_
  subst hQ; exact m_iret X hr hlk hM dL_defendantOf_14 rfl rfl
set_option maxHeartbeats 4000000 in
set_option maxRecDepth 20000 in
theorem w_X9_offenceOf (l : Launch) (hl : l.stackTraces = false) (E : Nat → Nat → Nat) (x : Nat) (co : Nat → Int → Int) (hs : Int) (er : Int) (fa : Int) (ss : Int) (k : Int) (oa : Nat) (lg : Nat → Int64) (hO : OkC co) (gk : Rg k) (k0 : 0 ≤ k ∧ k < co 0 0) (hd_cm_out : x + 1 ≤ oa ∨ oa + 1 ≤ x) (hd_co_out : x + 1 + 28 ≤ oa ∨ oa + 1 ≤ x + 1) : MuW l yL_offenceOf cL_offenceOf 4 (some .int) [(0, 9, 12, 25)] 3 1 6 E [(oa, 1)] [.ref x, .int (zI k), .ref oa] (fun H => PR E x [(x, .inr (11, [.ref (x + 1), .ref (x + 29), .ref (x + 57), .ref (x + 85), .ref (x + 311), .ref (x + 314), .ref (x + 319), .ref (x + 332), .int (zI hs), .int (zI er), .int (zI fa), .int (zI ss)]))] H ∧ PR E (x + 1) (courtW E (x + 1) co) H ∧ PR E oa [(oa, .inl (E 102 4, 1, .inr (.inl lg)))] H) (fun rv H => rv = some (.int (zI 0)) ∧ PR E oa [(oa, .inl (E 102 4, 1, .inr (.inl (fun _ => zL (co 2 k)))))] H) := by
  refine MuW.start (own := RL) rfl (by decide +kernel) (Nat.le_of_ble_eq_true rfl) ?_
  intro p e s m below meth cd args Q hQ X hr hlk htab hM hPr
  obtain ⟨h_cm, h_co, h_out⟩ := hPr
  refine v_aload_n X dL_offenceOf_0 1 rfl 2 rfl ?_
  refine v_iconst X dL_offenceOf_1 2 rfl ?_
  refine v_aload_n X dL_offenceOf_2 3 rfl 0 rfl ?_
  refine v_iload_n X dL_offenceOf_3 4 rfl 1 rfl ?_
  refine v_rdV X hM.C (PW.app h_cm.1 h_co.1) (c_X9_offenceOf l E x co hs er fa ss k hO gk k0) kvX9_offenceOf kiX9_offenceOf kl_L_49 rfl rfl (As := [.int (zI k)]) rfl rfl rfl dL_offenceOf_4 7 rfl ?_
  show V p l e (rmL 3 1 6) s m args below meth cd Q 4 s.heap [] 0 0 7 [(0, .ref x), (1, .int (zI k)), (2, .ref oa)] [.int (zI (co 2 k)), .int (zI 0), .ref oa]
  have hb_1 := hO.b2 k
  refine v_i2l X dL_offenceOf_7 8 rfl ?_
  refine v_last X hM h_out 0 rfl (Or.inl (fsH (by omega) (by omega))) dL_offenceOf_8 9 rfl (ws' := [(oa, .inl (E 102 4, 1, .inr (.inl (fun _ => zL (co 2 k)))))]) rfl (fun H2 lo2 hzz hM hF h_out => ?_)
  clear hzz
  replace h_cm := h_cm.kept hF 1 rfl (fsd (by omega))
  replace h_co := h_co.kept hF 28 rfl (fsd (by omega))
  refine v_goto X dL_offenceOf_9 15 (by decide) ?_
  refine v_iconst X dL_offenceOf_15 16 rfl ?_
  subst hQ; exact m_iret X hr hlk hM dL_offenceOf_16 rfl ⟨rfl, h_out⟩
set_option maxHeartbeats 4000000 in
set_option maxRecDepth 20000 in
theorem w_X9_offenceOf_0_t (l : Launch) (hl : l.stackTraces = false) (E : Nat → Nat → Nat) (x : Nat) (co : Nat → Int → Int) (hs : Int) (er : Int) (fa : Int) (ss : Int) (k : Int) (oa : Nat) (lg : Nat → Int64) (hO : OkC co) (gk : Rg k) (nk : ¬ (0 ≤ k ∧ k < co 0 0)) : MuW l yL_offenceOf cL_offenceOf 4 (some .int) [(0, 9, 12, 25)] 8 1 6 E [] [.ref x, .int (zI k), .ref oa] (fun H => PR E x [(x, .inr (11, [.ref (x + 1), .ref (x + 29), .ref (x + 57), .ref (x + 85), .ref (x + 311), .ref (x + 314), .ref (x + 319), .ref (x + 332), .int (zI hs), .int (zI er), .int (zI fa), .int (zI ss)]))] H ∧ PR E (x + 1) (courtW E (x + 1) co) H ∧ PR E oa [(oa, .inl (E 102 4, 1, .inr (.inl lg)))] H) (fun rv H => rv = some (.int (zI 1))) := by
  refine MuW.start (own := RL) rfl (by decide +kernel) (Nat.le_of_ble_eq_true rfl) ?_
  intro p e s m below meth cd args Q hQ X hr hlk htab hM hPr
  obtain ⟨h_cm, h_co, h_out⟩ := hPr
  refine v_aload_n X dL_offenceOf_0 1 rfl 2 rfl ?_
  refine v_iconst X dL_offenceOf_1 2 rfl ?_
  refine v_aload_n X dL_offenceOf_2 3 rfl 0 rfl ?_
  refine v_iload_n X dL_offenceOf_3 4 rfl 1 rfl ?_
  have hht : HT RL "java/lang/IndexOutOfBoundsException" s [(0, 9, 12, 25)] 4 0 12 := ⟨(0, 9, 12, 25), rfl, rfl, by decide, by decide, xl_L_25, xc_IOB, by
    intro i z hi hz
    omega⟩
  refine v_txC X htab hM (h_cm.1) (x_X9_offenceOf_0 l hl E x co hs er fa ss k hO gk nk) kvX9_offenceOf kiX9_offenceOf kl_L_49 (q0 := 0) rfl rfl (As := [.int (zI k)]) rfl rfl rfl dL_offenceOf_4 0 12 hht (k' := 1) (n' := 6) rfl rfl (fun q hq => hq.elim) ⟨h_cm, h_co⟩ (fun q9 H1 lo1 hM hF hpo => ?_)
  replace h_cm := h_cm.kept hF 1 rfl (fun q _ _ h => h.elim)
  replace h_co := h_co.kept hF 28 rfl (fun q _ _ h => h.elim)
  replace h_out := h_out.kept hF 1 rfl (fun q _ _ h => h.elim)
  show V p l e (rmL 8 1 6) s m args below meth cd Q 4 H1 lo1 1 6 12 [(0, .ref x), (1, .int (zI k)), (2, .ref oa)] [.ref q9]
  refine v_astore_n X dL_offenceOf_12 13 rfl rfl (by decide) (L' := [(3, .ref q9), (0, .ref x), (1, .int (zI k)), (2, .ref oa)]) rfl ?_
  refine v_iconst X dL_offenceOf_13 14 rfl ?_
  subst hQ; exact m_iret X hr hlk hM dL_offenceOf_14 rfl rfl
set_option maxHeartbeats 4000000 in
set_option maxRecDepth 20000 in
theorem w_X9_isOpen (l : Launch) (hl : l.stackTraces = false) (E : Nat → Nat → Nat) (x : Nat) (co : Nat → Int → Int) (hs : Int) (er : Int) (fa : Int) (ss : Int) (k : Int) (oa : Nat) (lg : Nat → Int64) (hO : OkC co) (gk : Rg k) (k0 : 0 ≤ k ∧ k < co 0 0) (hd_cm_out : x + 1 ≤ oa ∨ oa + 1 ≤ x) (hd_co_out : x + 1 + 28 ≤ oa ∨ oa + 1 ≤ x + 1) : MuW l yL_isOpen cL_isOpen 4 (some .int) [(0, 16, 19, 25)] 3 1 6 E [(oa, 1)] [.ref x, .int (zI k), .ref oa] (fun H => PR E x [(x, .inr (11, [.ref (x + 1), .ref (x + 29), .ref (x + 57), .ref (x + 85), .ref (x + 311), .ref (x + 314), .ref (x + 319), .ref (x + 332), .int (zI hs), .int (zI er), .int (zI fa), .int (zI ss)]))] H ∧ PR E (x + 1) (courtW E (x + 1) co) H ∧ PR E oa [(oa, .inl (E 102 4, 1, .inr (.inl lg)))] H) (fun rv H => rv = some (.int (zI 0)) ∧ PR E oa [(oa, .inl (E 102 4, 1, .inr (.inl (fun _ => zL (bz (co 3 k = 0))))))] H) := by
  refine MuW.start (own := RL) rfl (by decide +kernel) (Nat.le_of_ble_eq_true rfl) ?_
  intro p e s m below meth cd args Q hQ X hr hlk htab hM hPr
  obtain ⟨h_cm, h_co, h_out⟩ := hPr
  refine v_aload_n X dL_isOpen_0 1 rfl 2 rfl ?_
  refine v_iconst X dL_isOpen_1 2 rfl ?_
  refine v_aload_n X dL_isOpen_2 3 rfl 0 rfl ?_
  refine v_iload_n X dL_isOpen_3 4 rfl 1 rfl ?_
  refine v_rdV X hM.C (PW.app h_cm.1 h_co.1) (c_X9_isOpen l E x co hs er fa ss k hO gk k0) kvX9_isOpen kiX9_isOpen kl_L_52 rfl rfl (As := [.int (zI k)]) rfl rfl rfl dL_isOpen_4 7 rfl ?_
  show V p l e (rmL 3 1 6) s m args below meth cd Q 4 s.heap [] 0 0 7 [(0, .ref x), (1, .int (zI k)), (2, .ref oa)] [.int (zI (bz (co 3 k = 0))), .int (zI 0), .ref oa]
  refine v_bif_eq X dL_isOpen_7 10 14 rfl (by decide) (fun c_1 => ?_) (fun c_1 => ?_)
  · skip
    refine v_lconst 0 X dL_isOpen_14 rfl 15 rfl ?_
    refine v_last X hM h_out 0 rfl (Or.inl (fsH (by omega) (by omega))) dL_isOpen_15 16 rfl (ws' := [(oa, .inl (E 102 4, 1, .inr (.inl (fun _ => zL 0))))]) rfl (fun H2 lo2 hzz hM hF h_out => ?_)
    clear hzz
    replace h_cm := h_cm.kept hF 1 rfl (fsd (by omega))
    replace h_co := h_co.kept hF 28 rfl (fsd (by omega))
    refine v_goto X dL_isOpen_16 22 (by decide) ?_
    refine v_iconst X dL_isOpen_22 23 rfl ?_
    subst hQ; exact m_iret X hr hlk hM dL_isOpen_23 rfl ⟨rfl, (PR.to h_out (by first | rw [bz_t (φ := co 3 k = 0) (by assumption)] | rw [bz_f (φ := co 3 k = 0) (by assumption)]))⟩
  · skip
    refine v_lconst 1 X dL_isOpen_10 rfl 11 rfl ?_
    refine v_goto X dL_isOpen_11 15 (by decide) ?_
    refine v_last X hM h_out 0 rfl (Or.inl (fsH (by omega) (by omega))) dL_isOpen_15 16 rfl (ws' := [(oa, .inl (E 102 4, 1, .inr (.inl (fun _ => zL 1))))]) rfl (fun H3 lo3 hzz hM hF h_out => ?_)
    clear hzz
    replace h_cm := h_cm.kept hF 1 rfl (fsd (by omega))
    replace h_co := h_co.kept hF 28 rfl (fsd (by omega))
    refine v_goto X dL_isOpen_16 22 (by decide) ?_
    refine v_iconst X dL_isOpen_22 23 rfl ?_
    subst hQ; exact m_iret X hr hlk hM dL_isOpen_23 rfl ⟨rfl, (PR.to h_out (by first | rw [bz_t (φ := co 3 k = 0) (by assumption)] | rw [bz_f (φ := co 3 k = 0) (by assumption)]))⟩
set_option maxHeartbeats 4000000 in
set_option maxRecDepth 20000 in
theorem w_X9_isOpen_0_t (l : Launch) (hl : l.stackTraces = false) (E : Nat → Nat → Nat) (x : Nat) (co : Nat → Int → Int) (hs : Int) (er : Int) (fa : Int) (ss : Int) (k : Int) (oa : Nat) (lg : Nat → Int64) (hO : OkC co) (gk : Rg k) (nk : ¬ (0 ≤ k ∧ k < co 0 0)) : MuW l yL_isOpen cL_isOpen 4 (some .int) [(0, 16, 19, 25)] 8 1 6 E [] [.ref x, .int (zI k), .ref oa] (fun H => PR E x [(x, .inr (11, [.ref (x + 1), .ref (x + 29), .ref (x + 57), .ref (x + 85), .ref (x + 311), .ref (x + 314), .ref (x + 319), .ref (x + 332), .int (zI hs), .int (zI er), .int (zI fa), .int (zI ss)]))] H ∧ PR E (x + 1) (courtW E (x + 1) co) H ∧ PR E oa [(oa, .inl (E 102 4, 1, .inr (.inl lg)))] H) (fun rv H => rv = some (.int (zI 1))) := by
  refine MuW.start (own := RL) rfl (by decide +kernel) (Nat.le_of_ble_eq_true rfl) ?_
  intro p e s m below meth cd args Q hQ X hr hlk htab hM hPr
  obtain ⟨h_cm, h_co, h_out⟩ := hPr
  refine v_aload_n X dL_isOpen_0 1 rfl 2 rfl ?_
  refine v_iconst X dL_isOpen_1 2 rfl ?_
  refine v_aload_n X dL_isOpen_2 3 rfl 0 rfl ?_
  refine v_iload_n X dL_isOpen_3 4 rfl 1 rfl ?_
  have hht : HT RL "java/lang/IndexOutOfBoundsException" s [(0, 16, 19, 25)] 4 0 19 := ⟨(0, 16, 19, 25), rfl, rfl, by decide, by decide, xl_L_25, xc_IOB, by
    intro i z hi hz
    omega⟩
  refine v_txC X htab hM (h_cm.1) (x_X9_isOpen_0 l hl E x co hs er fa ss k hO gk nk) kvX9_isOpen kiX9_isOpen kl_L_52 (q0 := 0) rfl rfl (As := [.int (zI k)]) rfl rfl rfl dL_isOpen_4 0 19 hht (k' := 1) (n' := 6) rfl rfl (fun q hq => hq.elim) ⟨h_cm, h_co⟩ (fun q9 H1 lo1 hM hF hpo => ?_)
  replace h_cm := h_cm.kept hF 1 rfl (fun q _ _ h => h.elim)
  replace h_co := h_co.kept hF 28 rfl (fun q _ _ h => h.elim)
  replace h_out := h_out.kept hF 1 rfl (fun q _ _ h => h.elim)
  show V p l e (rmL 8 1 6) s m args below meth cd Q 4 H1 lo1 1 6 19 [(0, .ref x), (1, .int (zI k)), (2, .ref oa)] [.ref q9]
  refine v_astore_n X dL_isOpen_19 20 rfl rfl (by decide) (L' := [(3, .ref q9), (0, .ref x), (1, .int (zI k)), (2, .ref oa)]) rfl ?_
  refine v_iconst X dL_isOpen_20 21 rfl ?_
  subst hQ; exact m_iret X hr hlk hM dL_isOpen_21 rfl rfl
set_option maxHeartbeats 4000000 in
set_option maxRecDepth 20000 in
theorem w_X9_isDecided (l : Launch) (hl : l.stackTraces = false) (E : Nat → Nat → Nat) (x : Nat) (co : Nat → Int → Int) (hs : Int) (er : Int) (fa : Int) (ss : Int) (k : Int) (oa : Nat) (lg : Nat → Int64) (hO : OkC co) (gk : Rg k) (k0 : 0 ≤ k ∧ k < co 0 0) (hd_cm_out : x + 1 ≤ oa ∨ oa + 1 ≤ x) (hd_co_out : x + 1 + 28 ≤ oa ∨ oa + 1 ≤ x + 1) : MuW l yL_isDecided cL_isDecided 4 (some .int) [(0, 16, 19, 25)] 3 1 6 E [(oa, 1)] [.ref x, .int (zI k), .ref oa] (fun H => PR E x [(x, .inr (11, [.ref (x + 1), .ref (x + 29), .ref (x + 57), .ref (x + 85), .ref (x + 311), .ref (x + 314), .ref (x + 319), .ref (x + 332), .int (zI hs), .int (zI er), .int (zI fa), .int (zI ss)]))] H ∧ PR E (x + 1) (courtW E (x + 1) co) H ∧ PR E oa [(oa, .inl (E 102 4, 1, .inr (.inl lg)))] H) (fun rv H => rv = some (.int (zI 0)) ∧ PR E oa [(oa, .inl (E 102 4, 1, .inr (.inl (fun _ => zL (bz (co 3 k = 1))))))] H) := by
  refine MuW.start (own := RL) rfl (by decide +kernel) (Nat.le_of_ble_eq_true rfl) ?_
  intro p e s m below meth cd args Q hQ X hr hlk htab hM hPr
  obtain ⟨h_cm, h_co, h_out⟩ := hPr
  refine v_aload_n X dL_isDecided_0 1 rfl 2 rfl ?_
  refine v_iconst X dL_isDecided_1 2 rfl ?_
  refine v_aload_n X dL_isDecided_2 3 rfl 0 rfl ?_
  refine v_iload_n X dL_isDecided_3 4 rfl 1 rfl ?_
  refine v_rdV X hM.C (PW.app h_cm.1 h_co.1) (c_X9_isDecided l E x co hs er fa ss k hO gk k0) kvX9_isDecided kiX9_isDecided kl_L_55 rfl rfl (As := [.int (zI k)]) rfl rfl rfl dL_isDecided_4 7 rfl ?_
  show V p l e (rmL 3 1 6) s m args below meth cd Q 4 s.heap [] 0 0 7 [(0, .ref x), (1, .int (zI k)), (2, .ref oa)] [.int (zI (bz (co 3 k = 1))), .int (zI 0), .ref oa]
  refine v_bif_eq X dL_isDecided_7 10 14 rfl (by decide) (fun c_1 => ?_) (fun c_1 => ?_)
  · skip
    refine v_lconst 0 X dL_isDecided_14 rfl 15 rfl ?_
    refine v_last X hM h_out 0 rfl (Or.inl (fsH (by omega) (by omega))) dL_isDecided_15 16 rfl (ws' := [(oa, .inl (E 102 4, 1, .inr (.inl (fun _ => zL 0))))]) rfl (fun H2 lo2 hzz hM hF h_out => ?_)
    clear hzz
    replace h_cm := h_cm.kept hF 1 rfl (fsd (by omega))
    replace h_co := h_co.kept hF 28 rfl (fsd (by omega))
    refine v_goto X dL_isDecided_16 22 (by decide) ?_
    refine v_iconst X dL_isDecided_22 23 rfl ?_
    subst hQ; exact m_iret X hr hlk hM dL_isDecided_23 rfl ⟨rfl, (PR.to h_out (by first | rw [bz_t (φ := co 3 k = 1) (by assumption)] | rw [bz_f (φ := co 3 k = 1) (by assumption)]))⟩
  · skip
    refine v_lconst 1 X dL_isDecided_10 rfl 11 rfl ?_
    refine v_goto X dL_isDecided_11 15 (by decide) ?_
    refine v_last X hM h_out 0 rfl (Or.inl (fsH (by omega) (by omega))) dL_isDecided_15 16 rfl (ws' := [(oa, .inl (E 102 4, 1, .inr (.inl (fun _ => zL 1))))]) rfl (fun H3 lo3 hzz hM hF h_out => ?_)
    clear hzz
    replace h_cm := h_cm.kept hF 1 rfl (fsd (by omega))
    replace h_co := h_co.kept hF 28 rfl (fsd (by omega))
    refine v_goto X dL_isDecided_16 22 (by decide) ?_
    refine v_iconst X dL_isDecided_22 23 rfl ?_
    subst hQ; exact m_iret X hr hlk hM dL_isDecided_23 rfl ⟨rfl, (PR.to h_out (by first | rw [bz_t (φ := co 3 k = 1) (by assumption)] | rw [bz_f (φ := co 3 k = 1) (by assumption)]))⟩
set_option maxHeartbeats 4000000 in
set_option maxRecDepth 20000 in
theorem w_X9_isDecided_0_t (l : Launch) (hl : l.stackTraces = false) (E : Nat → Nat → Nat) (x : Nat) (co : Nat → Int → Int) (hs : Int) (er : Int) (fa : Int) (ss : Int) (k : Int) (oa : Nat) (lg : Nat → Int64) (hO : OkC co) (gk : Rg k) (nk : ¬ (0 ≤ k ∧ k < co 0 0)) : MuW l yL_isDecided cL_isDecided 4 (some .int) [(0, 16, 19, 25)] 8 1 6 E [] [.ref x, .int (zI k), .ref oa] (fun H => PR E x [(x, .inr (11, [.ref (x + 1), .ref (x + 29), .ref (x + 57), .ref (x + 85), .ref (x + 311), .ref (x + 314), .ref (x + 319), .ref (x + 332), .int (zI hs), .int (zI er), .int (zI fa), .int (zI ss)]))] H ∧ PR E (x + 1) (courtW E (x + 1) co) H ∧ PR E oa [(oa, .inl (E 102 4, 1, .inr (.inl lg)))] H) (fun rv H => rv = some (.int (zI 1))) := by
  refine MuW.start (own := RL) rfl (by decide +kernel) (Nat.le_of_ble_eq_true rfl) ?_
  intro p e s m below meth cd args Q hQ X hr hlk htab hM hPr
  obtain ⟨h_cm, h_co, h_out⟩ := hPr
  refine v_aload_n X dL_isDecided_0 1 rfl 2 rfl ?_
  refine v_iconst X dL_isDecided_1 2 rfl ?_
  refine v_aload_n X dL_isDecided_2 3 rfl 0 rfl ?_
  refine v_iload_n X dL_isDecided_3 4 rfl 1 rfl ?_
  have hht : HT RL "java/lang/IndexOutOfBoundsException" s [(0, 16, 19, 25)] 4 0 19 := ⟨(0, 16, 19, 25), rfl, rfl, by decide, by decide, xl_L_25, xc_IOB, by
    intro i z hi hz
    omega⟩
  refine v_txC X htab hM (h_cm.1) (x_X9_isDecided_0 l hl E x co hs er fa ss k hO gk nk) kvX9_isDecided kiX9_isDecided kl_L_55 (q0 := 0) rfl rfl (As := [.int (zI k)]) rfl rfl rfl dL_isDecided_4 0 19 hht (k' := 1) (n' := 6) rfl rfl (fun q hq => hq.elim) ⟨h_cm, h_co⟩ (fun q9 H1 lo1 hM hF hpo => ?_)
  replace h_cm := h_cm.kept hF 1 rfl (fun q _ _ h => h.elim)
  replace h_co := h_co.kept hF 28 rfl (fun q _ _ h => h.elim)
  replace h_out := h_out.kept hF 1 rfl (fun q _ _ h => h.elim)
  show V p l e (rmL 8 1 6) s m args below meth cd Q 4 H1 lo1 1 6 19 [(0, .ref x), (1, .int (zI k)), (2, .ref oa)] [.ref q9]
  refine v_astore_n X dL_isDecided_19 20 rfl rfl (by decide) (L' := [(3, .ref q9), (0, .ref x), (1, .int (zI k)), (2, .ref oa)]) rfl ?_
  refine v_iconst X dL_isDecided_20 21 rfl ?_
  subst hQ; exact m_iret X hr hlk hM dL_isDecided_21 rfl rfl
set_option maxHeartbeats 4000000 in
set_option maxRecDepth 20000 in
theorem w_X9_isClosed (l : Launch) (hl : l.stackTraces = false) (E : Nat → Nat → Nat) (x : Nat) (co : Nat → Int → Int) (hs : Int) (er : Int) (fa : Int) (ss : Int) (k : Int) (oa : Nat) (lg : Nat → Int64) (hO : OkC co) (gk : Rg k) (k0 : 0 ≤ k ∧ k < co 0 0) (hd_cm_out : x + 1 ≤ oa ∨ oa + 1 ≤ x) (hd_co_out : x + 1 + 28 ≤ oa ∨ oa + 1 ≤ x + 1) : MuW l yL_isClosed cL_isClosed 4 (some .int) [(0, 16, 19, 25)] 3 1 6 E [(oa, 1)] [.ref x, .int (zI k), .ref oa] (fun H => PR E x [(x, .inr (11, [.ref (x + 1), .ref (x + 29), .ref (x + 57), .ref (x + 85), .ref (x + 311), .ref (x + 314), .ref (x + 319), .ref (x + 332), .int (zI hs), .int (zI er), .int (zI fa), .int (zI ss)]))] H ∧ PR E (x + 1) (courtW E (x + 1) co) H ∧ PR E oa [(oa, .inl (E 102 4, 1, .inr (.inl lg)))] H) (fun rv H => rv = some (.int (zI 0)) ∧ PR E oa [(oa, .inl (E 102 4, 1, .inr (.inl (fun _ => zL (bz (co 3 k = 2))))))] H) := by
  refine MuW.start (own := RL) rfl (by decide +kernel) (Nat.le_of_ble_eq_true rfl) ?_
  intro p e s m below meth cd args Q hQ X hr hlk htab hM hPr
  obtain ⟨h_cm, h_co, h_out⟩ := hPr
  refine v_aload_n X dL_isClosed_0 1 rfl 2 rfl ?_
  refine v_iconst X dL_isClosed_1 2 rfl ?_
  refine v_aload_n X dL_isClosed_2 3 rfl 0 rfl ?_
  refine v_iload_n X dL_isClosed_3 4 rfl 1 rfl ?_
  refine v_rdV X hM.C (PW.app h_cm.1 h_co.1) (c_X9_isClosed l E x co hs er fa ss k hO gk k0) kvX9_isClosed kiX9_isClosed kl_L_58 rfl rfl (As := [.int (zI k)]) rfl rfl rfl dL_isClosed_4 7 rfl ?_
  show V p l e (rmL 3 1 6) s m args below meth cd Q 4 s.heap [] 0 0 7 [(0, .ref x), (1, .int (zI k)), (2, .ref oa)] [.int (zI (bz (co 3 k = 2))), .int (zI 0), .ref oa]
  refine v_bif_eq X dL_isClosed_7 10 14 rfl (by decide) (fun c_1 => ?_) (fun c_1 => ?_)
  · skip
    refine v_lconst 0 X dL_isClosed_14 rfl 15 rfl ?_
    refine v_last X hM h_out 0 rfl (Or.inl (fsH (by omega) (by omega))) dL_isClosed_15 16 rfl (ws' := [(oa, .inl (E 102 4, 1, .inr (.inl (fun _ => zL 0))))]) rfl (fun H2 lo2 hzz hM hF h_out => ?_)
    clear hzz
    replace h_cm := h_cm.kept hF 1 rfl (fsd (by omega))
    replace h_co := h_co.kept hF 28 rfl (fsd (by omega))
    refine v_goto X dL_isClosed_16 22 (by decide) ?_
    refine v_iconst X dL_isClosed_22 23 rfl ?_
    subst hQ; exact m_iret X hr hlk hM dL_isClosed_23 rfl ⟨rfl, (PR.to h_out (by first | rw [bz_t (φ := co 3 k = 2) (by assumption)] | rw [bz_f (φ := co 3 k = 2) (by assumption)]))⟩
  · skip
    refine v_lconst 1 X dL_isClosed_10 rfl 11 rfl ?_
    refine v_goto X dL_isClosed_11 15 (by decide) ?_
    refine v_last X hM h_out 0 rfl (Or.inl (fsH (by omega) (by omega))) dL_isClosed_15 16 rfl (ws' := [(oa, .inl (E 102 4, 1, .inr (.inl (fun _ => zL 1))))]) rfl (fun H3 lo3 hzz hM hF h_out => ?_)
    clear hzz
    replace h_cm := h_cm.kept hF 1 rfl (fsd (by omega))
    replace h_co := h_co.kept hF 28 rfl (fsd (by omega))
    refine v_goto X dL_isClosed_16 22 (by decide) ?_
    refine v_iconst X dL_isClosed_22 23 rfl ?_
    subst hQ; exact m_iret X hr hlk hM dL_isClosed_23 rfl ⟨rfl, (PR.to h_out (by first | rw [bz_t (φ := co 3 k = 2) (by assumption)] | rw [bz_f (φ := co 3 k = 2) (by assumption)]))⟩
set_option maxHeartbeats 4000000 in
set_option maxRecDepth 20000 in
theorem w_X9_isClosed_0_t (l : Launch) (hl : l.stackTraces = false) (E : Nat → Nat → Nat) (x : Nat) (co : Nat → Int → Int) (hs : Int) (er : Int) (fa : Int) (ss : Int) (k : Int) (oa : Nat) (lg : Nat → Int64) (hO : OkC co) (gk : Rg k) (nk : ¬ (0 ≤ k ∧ k < co 0 0)) : MuW l yL_isClosed cL_isClosed 4 (some .int) [(0, 16, 19, 25)] 8 1 6 E [] [.ref x, .int (zI k), .ref oa] (fun H => PR E x [(x, .inr (11, [.ref (x + 1), .ref (x + 29), .ref (x + 57), .ref (x + 85), .ref (x + 311), .ref (x + 314), .ref (x + 319), .ref (x + 332), .int (zI hs), .int (zI er), .int (zI fa), .int (zI ss)]))] H ∧ PR E (x + 1) (courtW E (x + 1) co) H ∧ PR E oa [(oa, .inl (E 102 4, 1, .inr (.inl lg)))] H) (fun rv H => rv = some (.int (zI 1))) := by
  refine MuW.start (own := RL) rfl (by decide +kernel) (Nat.le_of_ble_eq_true rfl) ?_
  intro p e s m below meth cd args Q hQ X hr hlk htab hM hPr
  obtain ⟨h_cm, h_co, h_out⟩ := hPr
  refine v_aload_n X dL_isClosed_0 1 rfl 2 rfl ?_
  refine v_iconst X dL_isClosed_1 2 rfl ?_
  refine v_aload_n X dL_isClosed_2 3 rfl 0 rfl ?_
  refine v_iload_n X dL_isClosed_3 4 rfl 1 rfl ?_
  have hht : HT RL "java/lang/IndexOutOfBoundsException" s [(0, 16, 19, 25)] 4 0 19 := ⟨(0, 16, 19, 25), rfl, rfl, by decide, by decide, xl_L_25, xc_IOB, by
    intro i z hi hz
    omega⟩
  refine v_txC X htab hM (h_cm.1) (x_X9_isClosed_0 l hl E x co hs er fa ss k hO gk nk) kvX9_isClosed kiX9_isClosed kl_L_58 (q0 := 0) rfl rfl (As := [.int (zI k)]) rfl rfl rfl dL_isClosed_4 0 19 hht (k' := 1) (n' := 6) rfl rfl (fun q hq => hq.elim) ⟨h_cm, h_co⟩ (fun q9 H1 lo1 hM hF hpo => ?_)
  replace h_cm := h_cm.kept hF 1 rfl (fun q _ _ h => h.elim)
  replace h_co := h_co.kept hF 28 rfl (fun q _ _ h => h.elim)
  replace h_out := h_out.kept hF 1 rfl (fun q _ _ h => h.elim)
  show V p l e (rmL 8 1 6) s m args below meth cd Q 4 H1 lo1 1 6 19 [(0, .ref x), (1, .int (zI k)), (2, .ref oa)] [.ref q9]
  refine v_astore_n X dL_isClosed_19 20 rfl rfl (by decide) (L' := [(3, .ref q9), (0, .ref x), (1, .int (zI k)), (2, .ref oa)]) rfl ?_
  refine v_iconst X dL_isClosed_20 21 rfl ?_
  subst hQ; exact m_iret X hr hlk hM dL_isClosed_21 rfl rfl
set_option maxHeartbeats 4000000 in
set_option maxRecDepth 20000 in
theorem w_X9_isGuilty (l : Launch) (hl : l.stackTraces = false) (E : Nat → Nat → Nat) (x : Nat) (co : Nat → Int → Int) (hs : Int) (er : Int) (fa : Int) (ss : Int) (k : Int) (oa : Nat) (lg : Nat → Int64) (hO : OkC co) (gk : Rg k) (k0 : 0 ≤ k ∧ k < co 0 0) (k1 : ¬ co 3 k = 0) (hd_cm_out : x + 1 ≤ oa ∨ oa + 1 ≤ x) (hd_co_out : x + 1 + 28 ≤ oa ∨ oa + 1 ≤ x + 1) : MuW l yL_isGuilty cL_isGuilty 4 (some .int) [(0, 16, 19, 25), (0, 16, 22, 15)] 3 1 6 E [(oa, 1)] [.ref x, .int (zI k), .ref oa] (fun H => PR E x [(x, .inr (11, [.ref (x + 1), .ref (x + 29), .ref (x + 57), .ref (x + 85), .ref (x + 311), .ref (x + 314), .ref (x + 319), .ref (x + 332), .int (zI hs), .int (zI er), .int (zI fa), .int (zI ss)]))] H ∧ PR E (x + 1) (courtW E (x + 1) co) H ∧ PR E oa [(oa, .inl (E 102 4, 1, .inr (.inl lg)))] H) (fun rv H => rv = some (.int (zI 0)) ∧ PR E oa [(oa, .inl (E 102 4, 1, .inr (.inl (fun _ => zL (bz (¬ co 4 k = 0))))))] H) := by
  refine MuW.start (own := RL) rfl (by decide +kernel) (Nat.le_of_ble_eq_true rfl) ?_
  intro p e s m below meth cd args Q hQ X hr hlk htab hM hPr
  obtain ⟨h_cm, h_co, h_out⟩ := hPr
  refine v_aload_n X dL_isGuilty_0 1 rfl 2 rfl ?_
  refine v_iconst X dL_isGuilty_1 2 rfl ?_
  refine v_aload_n X dL_isGuilty_2 3 rfl 0 rfl ?_
  refine v_iload_n X dL_isGuilty_3 4 rfl 1 rfl ?_
  refine v_rdV X hM.C (PW.app h_cm.1 h_co.1) (c_X9_isGuilty l E x co hs er fa ss k hO gk k0 k1) kvX9_isGuilty kiX9_isGuilty kl_L_61 rfl rfl (As := [.int (zI k)]) rfl rfl rfl dL_isGuilty_4 7 rfl ?_
  show V p l e (rmL 3 1 6) s m args below meth cd Q 4 s.heap [] 0 0 7 [(0, .ref x), (1, .int (zI k)), (2, .ref oa)] [.int (zI (bz (¬ co 4 k = 0))), .int (zI 0), .ref oa]
  refine v_bif_eq X dL_isGuilty_7 10 14 rfl (by decide) (fun c_1 => ?_) (fun c_1 => ?_)
  · skip
    refine v_lconst 0 X dL_isGuilty_14 rfl 15 rfl ?_
    refine v_last X hM h_out 0 rfl (Or.inl (fsH (by omega) (by omega))) dL_isGuilty_15 16 rfl (ws' := [(oa, .inl (E 102 4, 1, .inr (.inl (fun _ => zL 0))))]) rfl (fun H2 lo2 hzz hM hF h_out => ?_)
    clear hzz
    replace h_cm := h_cm.kept hF 1 rfl (fsd (by omega))
    replace h_co := h_co.kept hF 28 rfl (fsd (by omega))
    refine v_goto X dL_isGuilty_16 25 (by decide) ?_
    refine v_iconst X dL_isGuilty_25 26 rfl ?_
    subst hQ; exact m_iret X hr hlk hM dL_isGuilty_26 rfl ⟨rfl, (PR.to h_out (by first | rw [bz_t (φ := ¬ co 4 k = 0) (by assumption)] | rw [bz_f (φ := ¬ co 4 k = 0) (by assumption)]))⟩
  · skip
    refine v_lconst 1 X dL_isGuilty_10 rfl 11 rfl ?_
    refine v_goto X dL_isGuilty_11 15 (by decide) ?_
    refine v_last X hM h_out 0 rfl (Or.inl (fsH (by omega) (by omega))) dL_isGuilty_15 16 rfl (ws' := [(oa, .inl (E 102 4, 1, .inr (.inl (fun _ => zL 1))))]) rfl (fun H3 lo3 hzz hM hF h_out => ?_)
    clear hzz
    replace h_cm := h_cm.kept hF 1 rfl (fsd (by omega))
    replace h_co := h_co.kept hF 28 rfl (fsd (by omega))
    refine v_goto X dL_isGuilty_16 25 (by decide) ?_
    refine v_iconst X dL_isGuilty_25 26 rfl ?_
    subst hQ; exact m_iret X hr hlk hM dL_isGuilty_26 rfl ⟨rfl, (PR.to h_out (by first | rw [bz_t (φ := ¬ co 4 k = 0) (by assumption)] | rw [bz_f (φ := ¬ co 4 k = 0) (by assumption)]))⟩
set_option maxHeartbeats 4000000 in
set_option maxRecDepth 20000 in
theorem w_X9_isGuilty_0_t (l : Launch) (hl : l.stackTraces = false) (E : Nat → Nat → Nat) (x : Nat) (co : Nat → Int → Int) (hs : Int) (er : Int) (fa : Int) (ss : Int) (k : Int) (oa : Nat) (lg : Nat → Int64) (hO : OkC co) (gk : Rg k) (nk : ¬ (0 ≤ k ∧ k < co 0 0)) : MuW l yL_isGuilty cL_isGuilty 4 (some .int) [(0, 16, 19, 25), (0, 16, 22, 15)] 8 1 6 E [] [.ref x, .int (zI k), .ref oa] (fun H => PR E x [(x, .inr (11, [.ref (x + 1), .ref (x + 29), .ref (x + 57), .ref (x + 85), .ref (x + 311), .ref (x + 314), .ref (x + 319), .ref (x + 332), .int (zI hs), .int (zI er), .int (zI fa), .int (zI ss)]))] H ∧ PR E (x + 1) (courtW E (x + 1) co) H ∧ PR E oa [(oa, .inl (E 102 4, 1, .inr (.inl lg)))] H) (fun rv H => rv = some (.int (zI 1))) := by
  refine MuW.start (own := RL) rfl (by decide +kernel) (Nat.le_of_ble_eq_true rfl) ?_
  intro p e s m below meth cd args Q hQ X hr hlk htab hM hPr
  obtain ⟨h_cm, h_co, h_out⟩ := hPr
  refine v_aload_n X dL_isGuilty_0 1 rfl 2 rfl ?_
  refine v_iconst X dL_isGuilty_1 2 rfl ?_
  refine v_aload_n X dL_isGuilty_2 3 rfl 0 rfl ?_
  refine v_iload_n X dL_isGuilty_3 4 rfl 1 rfl ?_
  have hht : HT RL "java/lang/IndexOutOfBoundsException" s [(0, 16, 19, 25), (0, 16, 22, 15)] 4 0 19 := ⟨(0, 16, 19, 25), rfl, rfl, by decide, by decide, xl_L_25, xc_IOB, by
    intro i z hi hz
    omega⟩
  refine v_txC X htab hM (h_cm.1) (x_X9_isGuilty_0 l hl E x co hs er fa ss k hO gk nk) kvX9_isGuilty kiX9_isGuilty kl_L_61 (q0 := 0) rfl rfl (As := [.int (zI k)]) rfl rfl rfl dL_isGuilty_4 0 19 hht (k' := 1) (n' := 6) rfl rfl (fun q hq => hq.elim) ⟨h_cm, h_co⟩ (fun q9 H1 lo1 hM hF hpo => ?_)
  replace h_cm := h_cm.kept hF 1 rfl (fun q _ _ h => h.elim)
  replace h_co := h_co.kept hF 28 rfl (fun q _ _ h => h.elim)
  replace h_out := h_out.kept hF 1 rfl (fun q _ _ h => h.elim)
  show V p l e (rmL 8 1 6) s m args below meth cd Q 4 H1 lo1 1 6 19 [(0, .ref x), (1, .int (zI k)), (2, .ref oa)] [.ref q9]
  refine v_astore_n X dL_isGuilty_19 20 rfl rfl (by decide) (L' := [(3, .ref q9), (0, .ref x), (1, .int (zI k)), (2, .ref oa)]) rfl ?_
  refine v_iconst X dL_isGuilty_20 21 rfl ?_
  subst hQ; exact m_iret X hr hlk hM dL_isGuilty_21 rfl rfl
set_option maxHeartbeats 4000000 in
set_option maxRecDepth 20000 in
theorem w_X9_isGuilty_1_t (l : Launch) (hl : l.stackTraces = false) (E : Nat → Nat → Nat) (x : Nat) (co : Nat → Int → Int) (hs : Int) (er : Int) (fa : Int) (ss : Int) (k : Int) (oa : Nat) (lg : Nat → Int64) (hO : OkC co) (gk : Rg k) (k0 : 0 ≤ k ∧ k < co 0 0) (nk : ¬ (¬ co 3 k = 0)) : MuW l yL_isGuilty cL_isGuilty 4 (some .int) [(0, 16, 19, 25), (0, 16, 22, 15)] 7 1 6 E [] [.ref x, .int (zI k), .ref oa] (fun H => PR E x [(x, .inr (11, [.ref (x + 1), .ref (x + 29), .ref (x + 57), .ref (x + 85), .ref (x + 311), .ref (x + 314), .ref (x + 319), .ref (x + 332), .int (zI hs), .int (zI er), .int (zI fa), .int (zI ss)]))] H ∧ PR E (x + 1) (courtW E (x + 1) co) H ∧ PR E oa [(oa, .inl (E 102 4, 1, .inr (.inl lg)))] H) (fun rv H => rv = some (.int (zI 2))) := by
  refine MuW.start (own := RL) rfl (by decide +kernel) (Nat.le_of_ble_eq_true rfl) ?_
  intro p e s m below meth cd args Q hQ X hr hlk htab hM hPr
  obtain ⟨h_cm, h_co, h_out⟩ := hPr
  refine v_aload_n X dL_isGuilty_0 1 rfl 2 rfl ?_
  refine v_iconst X dL_isGuilty_1 2 rfl ?_
  refine v_aload_n X dL_isGuilty_2 3 rfl 0 rfl ?_
  refine v_iload_n X dL_isGuilty_3 4 rfl 1 rfl ?_
  have hht : HT RL "java/lang/IllegalStateException" s [(0, 16, 19, 25), (0, 16, 22, 15)] 4 1 22 := ⟨(0, 16, 22, 15), rfl, rfl, by decide, by decide, xl_L_15, xc_ISE, by
    intro i z hi hz
    rcases (show i = 0 by omega) with rfl
    · cases hz; exact ⟨by decide, _, xl_L_25, hM.C.2.2.2.2.2.2.1 1 2 _ _ (by decide) rfl rfl⟩⟩
  refine v_txC X htab hM (h_cm.1) (x_X9_isGuilty_1 l hl E x co hs er fa ss k hO gk k0 nk) kvX9_isGuilty kiX9_isGuilty kl_L_61 (q0 := 0) rfl rfl (As := [.int (zI k)]) rfl rfl rfl dL_isGuilty_4 1 22 hht (k' := 1) (n' := 6) rfl rfl (fun q hq => hq.elim) ⟨h_cm, h_co⟩ (fun q9 H1 lo1 hM hF hpo => ?_)
  replace h_cm := h_cm.kept hF 1 rfl (fun q _ _ h => h.elim)
  replace h_co := h_co.kept hF 28 rfl (fun q _ _ h => h.elim)
  replace h_out := h_out.kept hF 1 rfl (fun q _ _ h => h.elim)
  show V p l e (rmL 7 1 6) s m args below meth cd Q 4 H1 lo1 1 6 22 [(0, .ref x), (1, .int (zI k)), (2, .ref oa)] [.ref q9]
  refine v_astore_n X dL_isGuilty_22 23 rfl rfl (by decide) (L' := [(3, .ref q9), (0, .ref x), (1, .int (zI k)), (2, .ref oa)]) rfl ?_
  refine v_iconst X dL_isGuilty_23 24 rfl ?_
  subst hQ; exact m_iret X hr hlk hM dL_isGuilty_24 rfl rfl
set_option maxHeartbeats 4000000 in
set_option maxRecDepth 20000 in
theorem w_X9_appealCount (l : Launch) (hl : l.stackTraces = false) (E : Nat → Nat → Nat) (x : Nat) (co : Nat → Int → Int) (hs : Int) (er : Int) (fa : Int) (ss : Int) (k : Int) (oa : Nat) (lg : Nat → Int64) (hO : OkC co) (gk : Rg k) (k0 : 0 ≤ k ∧ k < co 0 0) (hd_cm_out : x + 1 ≤ oa ∨ oa + 1 ≤ x) (hd_co_out : x + 1 + 28 ≤ oa ∨ oa + 1 ≤ x + 1) : MuW l yL_appealCount cL_appealCount 4 (some .int) [(0, 9, 12, 25)] 3 1 6 E [(oa, 1)] [.ref x, .int (zI k), .ref oa] (fun H => PR E x [(x, .inr (11, [.ref (x + 1), .ref (x + 29), .ref (x + 57), .ref (x + 85), .ref (x + 311), .ref (x + 314), .ref (x + 319), .ref (x + 332), .int (zI hs), .int (zI er), .int (zI fa), .int (zI ss)]))] H ∧ PR E (x + 1) (courtW E (x + 1) co) H ∧ PR E oa [(oa, .inl (E 102 4, 1, .inr (.inl lg)))] H) (fun rv H => rv = some (.int (zI 0)) ∧ PR E oa [(oa, .inl (E 102 4, 1, .inr (.inl (fun _ => zL (co 5 k)))))] H) := by
  refine MuW.start (own := RL) rfl (by decide +kernel) (Nat.le_of_ble_eq_true rfl) ?_
  intro p e s m below meth cd args Q hQ X hr hlk htab hM hPr
  obtain ⟨h_cm, h_co, h_out⟩ := hPr
  refine v_aload_n X dL_appealCount_0 1 rfl 2 rfl ?_
  refine v_iconst X dL_appealCount_1 2 rfl ?_
  refine v_aload_n X dL_appealCount_2 3 rfl 0 rfl ?_
  refine v_iload_n X dL_appealCount_3 4 rfl 1 rfl ?_
  refine v_rdV X hM.C (PW.app h_cm.1 h_co.1) (c_X9_appealCount l E x co hs er fa ss k hO gk k0) kvX9_appealCount kiX9_appealCount kl_L_64 rfl rfl (As := [.int (zI k)]) rfl rfl rfl dL_appealCount_4 7 rfl ?_
  show V p l e (rmL 3 1 6) s m args below meth cd Q 4 s.heap [] 0 0 7 [(0, .ref x), (1, .int (zI k)), (2, .ref oa)] [.int (zI (co 5 k)), .int (zI 0), .ref oa]
  have hb_1 := hO.b5 k
  refine v_i2l X dL_appealCount_7 8 rfl ?_
  refine v_last X hM h_out 0 rfl (Or.inl (fsH (by omega) (by omega))) dL_appealCount_8 9 rfl (ws' := [(oa, .inl (E 102 4, 1, .inr (.inl (fun _ => zL (co 5 k)))))]) rfl (fun H2 lo2 hzz hM hF h_out => ?_)
  clear hzz
  replace h_cm := h_cm.kept hF 1 rfl (fsd (by omega))
  replace h_co := h_co.kept hF 28 rfl (fsd (by omega))
  refine v_goto X dL_appealCount_9 15 (by decide) ?_
  refine v_iconst X dL_appealCount_15 16 rfl ?_
  subst hQ; exact m_iret X hr hlk hM dL_appealCount_16 rfl ⟨rfl, h_out⟩
set_option maxHeartbeats 4000000 in
set_option maxRecDepth 20000 in
theorem w_X9_appealCount_0_t (l : Launch) (hl : l.stackTraces = false) (E : Nat → Nat → Nat) (x : Nat) (co : Nat → Int → Int) (hs : Int) (er : Int) (fa : Int) (ss : Int) (k : Int) (oa : Nat) (lg : Nat → Int64) (hO : OkC co) (gk : Rg k) (nk : ¬ (0 ≤ k ∧ k < co 0 0)) : MuW l yL_appealCount cL_appealCount 4 (some .int) [(0, 9, 12, 25)] 8 1 6 E [] [.ref x, .int (zI k), .ref oa] (fun H => PR E x [(x, .inr (11, [.ref (x + 1), .ref (x + 29), .ref (x + 57), .ref (x + 85), .ref (x + 311), .ref (x + 314), .ref (x + 319), .ref (x + 332), .int (zI hs), .int (zI er), .int (zI fa), .int (zI ss)]))] H ∧ PR E (x + 1) (courtW E (x + 1) co) H ∧ PR E oa [(oa, .inl (E 102 4, 1, .inr (.inl lg)))] H) (fun rv H => rv = some (.int (zI 1))) := by
  refine MuW.start (own := RL) rfl (by decide +kernel) (Nat.le_of_ble_eq_true rfl) ?_
  intro p e s m below meth cd args Q hQ X hr hlk htab hM hPr
  obtain ⟨h_cm, h_co, h_out⟩ := hPr
  refine v_aload_n X dL_appealCount_0 1 rfl 2 rfl ?_
  refine v_iconst X dL_appealCount_1 2 rfl ?_
  refine v_aload_n X dL_appealCount_2 3 rfl 0 rfl ?_
  refine v_iload_n X dL_appealCount_3 4 rfl 1 rfl ?_
  have hht : HT RL "java/lang/IndexOutOfBoundsException" s [(0, 9, 12, 25)] 4 0 12 := ⟨(0, 9, 12, 25), rfl, rfl, by decide, by decide, xl_L_25, xc_IOB, by
    intro i z hi hz
    omega⟩
  refine v_txC X htab hM (h_cm.1) (x_X9_appealCount_0 l hl E x co hs er fa ss k hO gk nk) kvX9_appealCount kiX9_appealCount kl_L_64 (q0 := 0) rfl rfl (As := [.int (zI k)]) rfl rfl rfl dL_appealCount_4 0 12 hht (k' := 1) (n' := 6) rfl rfl (fun q hq => hq.elim) ⟨h_cm, h_co⟩ (fun q9 H1 lo1 hM hF hpo => ?_)
  replace h_cm := h_cm.kept hF 1 rfl (fun q _ _ h => h.elim)
  replace h_co := h_co.kept hF 28 rfl (fun q _ _ h => h.elim)
  replace h_out := h_out.kept hF 1 rfl (fun q _ _ h => h.elim)
  show V p l e (rmL 8 1 6) s m args below meth cd Q 4 H1 lo1 1 6 12 [(0, .ref x), (1, .int (zI k)), (2, .ref oa)] [.ref q9]
  refine v_astore_n X dL_appealCount_12 13 rfl rfl (by decide) (L' := [(3, .ref q9), (0, .ref x), (1, .int (zI k)), (2, .ref oa)]) rfl ?_
  refine v_iconst X dL_appealCount_13 14 rfl ?_
  subst hQ; exact m_iret X hr hlk hM dL_appealCount_14 rfl rfl
set_option maxHeartbeats 4000000 in
set_option maxRecDepth 20000 in
theorem w_X9_testimonyCount (l : Launch) (hl : l.stackTraces = false) (E : Nat → Nat → Nat) (x : Nat) (co : Nat → Int → Int) (hs : Int) (er : Int) (fa : Int) (ss : Int) (k : Int) (oa : Nat) (lg : Nat → Int64) (hO : OkC co) (gk : Rg k) (k0 : 0 ≤ k ∧ k < co 0 0) (hd_cm_out : x + 1 ≤ oa ∨ oa + 1 ≤ x) (hd_co_out : x + 1 + 28 ≤ oa ∨ oa + 1 ≤ x + 1) : MuW l yL_testimonyCount cL_testimonyCount 4 (some .int) [(0, 9, 12, 25)] 3 1 6 E [(oa, 1)] [.ref x, .int (zI k), .ref oa] (fun H => PR E x [(x, .inr (11, [.ref (x + 1), .ref (x + 29), .ref (x + 57), .ref (x + 85), .ref (x + 311), .ref (x + 314), .ref (x + 319), .ref (x + 332), .int (zI hs), .int (zI er), .int (zI fa), .int (zI ss)]))] H ∧ PR E (x + 1) (courtW E (x + 1) co) H ∧ PR E oa [(oa, .inl (E 102 4, 1, .inr (.inl lg)))] H) (fun rv H => rv = some (.int (zI 0)) ∧ PR E oa [(oa, .inl (E 102 4, 1, .inr (.inl (fun _ => zL (co 6 k)))))] H) := by
  refine MuW.start (own := RL) rfl (by decide +kernel) (Nat.le_of_ble_eq_true rfl) ?_
  intro p e s m below meth cd args Q hQ X hr hlk htab hM hPr
  obtain ⟨h_cm, h_co, h_out⟩ := hPr
  refine v_aload_n X dL_testimonyCount_0 1 rfl 2 rfl ?_
  refine v_iconst X dL_testimonyCount_1 2 rfl ?_
  refine v_aload_n X dL_testimonyCount_2 3 rfl 0 rfl ?_
  refine v_iload_n X dL_testimonyCount_3 4 rfl 1 rfl ?_
  refine v_rdV X hM.C (PW.app h_cm.1 h_co.1) (c_X9_testimonyCount l E x co hs er fa ss k hO gk k0) kvX9_testimonyCount kiX9_testimonyCount kl_L_67 rfl rfl (As := [.int (zI k)]) rfl rfl rfl dL_testimonyCount_4 7 rfl ?_
  show V p l e (rmL 3 1 6) s m args below meth cd Q 4 s.heap [] 0 0 7 [(0, .ref x), (1, .int (zI k)), (2, .ref oa)] [.int (zI (co 6 k)), .int (zI 0), .ref oa]
  have hb_1 := hO.b6 k
  refine v_i2l X dL_testimonyCount_7 8 rfl ?_
  refine v_last X hM h_out 0 rfl (Or.inl (fsH (by omega) (by omega))) dL_testimonyCount_8 9 rfl (ws' := [(oa, .inl (E 102 4, 1, .inr (.inl (fun _ => zL (co 6 k)))))]) rfl (fun H2 lo2 hzz hM hF h_out => ?_)
  clear hzz
  replace h_cm := h_cm.kept hF 1 rfl (fsd (by omega))
  replace h_co := h_co.kept hF 28 rfl (fsd (by omega))
  refine v_goto X dL_testimonyCount_9 15 (by decide) ?_
  refine v_iconst X dL_testimonyCount_15 16 rfl ?_
  subst hQ; exact m_iret X hr hlk hM dL_testimonyCount_16 rfl ⟨rfl, h_out⟩
set_option maxHeartbeats 4000000 in
set_option maxRecDepth 20000 in
theorem w_X9_testimonyCount_0_t (l : Launch) (hl : l.stackTraces = false) (E : Nat → Nat → Nat) (x : Nat) (co : Nat → Int → Int) (hs : Int) (er : Int) (fa : Int) (ss : Int) (k : Int) (oa : Nat) (lg : Nat → Int64) (hO : OkC co) (gk : Rg k) (nk : ¬ (0 ≤ k ∧ k < co 0 0)) : MuW l yL_testimonyCount cL_testimonyCount 4 (some .int) [(0, 9, 12, 25)] 8 1 6 E [] [.ref x, .int (zI k), .ref oa] (fun H => PR E x [(x, .inr (11, [.ref (x + 1), .ref (x + 29), .ref (x + 57), .ref (x + 85), .ref (x + 311), .ref (x + 314), .ref (x + 319), .ref (x + 332), .int (zI hs), .int (zI er), .int (zI fa), .int (zI ss)]))] H ∧ PR E (x + 1) (courtW E (x + 1) co) H ∧ PR E oa [(oa, .inl (E 102 4, 1, .inr (.inl lg)))] H) (fun rv H => rv = some (.int (zI 1))) := by
  refine MuW.start (own := RL) rfl (by decide +kernel) (Nat.le_of_ble_eq_true rfl) ?_
  intro p e s m below meth cd args Q hQ X hr hlk htab hM hPr
  obtain ⟨h_cm, h_co, h_out⟩ := hPr
  refine v_aload_n X dL_testimonyCount_0 1 rfl 2 rfl ?_
  refine v_iconst X dL_testimonyCount_1 2 rfl ?_
  refine v_aload_n X dL_testimonyCount_2 3 rfl 0 rfl ?_
  refine v_iload_n X dL_testimonyCount_3 4 rfl 1 rfl ?_
  have hht : HT RL "java/lang/IndexOutOfBoundsException" s [(0, 9, 12, 25)] 4 0 12 := ⟨(0, 9, 12, 25), rfl, rfl, by decide, by decide, xl_L_25, xc_IOB, by
    intro i z hi hz
    omega⟩
  refine v_txC X htab hM (h_cm.1) (x_X9_testimonyCount_0 l hl E x co hs er fa ss k hO gk nk) kvX9_testimonyCount kiX9_testimonyCount kl_L_67 (q0 := 0) rfl rfl (As := [.int (zI k)]) rfl rfl rfl dL_testimonyCount_4 0 12 hht (k' := 1) (n' := 6) rfl rfl (fun q hq => hq.elim) ⟨h_cm, h_co⟩ (fun q9 H1 lo1 hM hF hpo => ?_)
  replace h_cm := h_cm.kept hF 1 rfl (fun q _ _ h => h.elim)
  replace h_co := h_co.kept hF 28 rfl (fun q _ _ h => h.elim)
  replace h_out := h_out.kept hF 1 rfl (fun q _ _ h => h.elim)
  show V p l e (rmL 8 1 6) s m args below meth cd Q 4 H1 lo1 1 6 12 [(0, .ref x), (1, .int (zI k)), (2, .ref oa)] [.ref q9]
  refine v_astore_n X dL_testimonyCount_12 13 rfl rfl (by decide) (L' := [(3, .ref q9), (0, .ref x), (1, .int (zI k)), (2, .ref oa)]) rfl ?_
  refine v_iconst X dL_testimonyCount_13 14 rfl ?_
  subst hQ; exact m_iret X hr hlk hM dL_testimonyCount_14 rfl rfl
set_option maxHeartbeats 4000000 in
set_option maxRecDepth 20000 in
theorem w_X9_witnessAt (l : Launch) (hl : l.stackTraces = false) (E : Nat → Nat → Nat) (x : Nat) (co : Nat → Int → Int) (hs : Int) (er : Int) (fa : Int) (ss : Int) (k : Int) (q : Int) (oa : Nat) (lg : Nat → Int64) (hO : OkC co) (gk : Rg k) (gq : Rg q) (k0 : 0 ≤ k ∧ k < co 0 0) (k1 : 0 ≤ q ∧ q < co 6 k) (hd_cm_out : x + 1 ≤ oa ∨ oa + 1 ≤ x) (hd_co_out : x + 1 + 28 ≤ oa ∨ oa + 1 ≤ x + 1) : MuW l yL_witnessAt cL_witnessAt 5 (some .int) [(0, 10, 13, 25), (0, 10, 17, 31)] 3 1 6 E [(oa, 1)] [.ref x, .int (zI k), .int (zI q), .ref oa] (fun H => PR E x [(x, .inr (11, [.ref (x + 1), .ref (x + 29), .ref (x + 57), .ref (x + 85), .ref (x + 311), .ref (x + 314), .ref (x + 319), .ref (x + 332), .int (zI hs), .int (zI er), .int (zI fa), .int (zI ss)]))] H ∧ PR E (x + 1) (courtW E (x + 1) co) H ∧ PR E oa [(oa, .inl (E 102 4, 1, .inr (.inl lg)))] H) (fun rv H => rv = some (.int (zI 0)) ∧ PR E oa [(oa, .inl (E 102 4, 1, .inr (.inl (fun _ => zL (co 7 (k * 6 + q))))))] H) := by
  refine MuW.start (own := RL) rfl (by decide +kernel) (Nat.le_of_ble_eq_true rfl) ?_
  intro p e s m below meth cd args Q hQ X hr hlk htab hM hPr
  obtain ⟨h_cm, h_co, h_out⟩ := hPr
  refine v_aload_n X dL_witnessAt_0 1 rfl 3 rfl ?_
  refine v_iconst X dL_witnessAt_1 2 rfl ?_
  refine v_aload_n X dL_witnessAt_2 3 rfl 0 rfl ?_
  refine v_iload_n X dL_witnessAt_3 4 rfl 1 rfl ?_
  refine v_iload_n X dL_witnessAt_4 5 rfl 2 rfl ?_
  refine v_rdV X hM.C (PW.app h_cm.1 h_co.1) (c_X9_witnessAt l E x co hs er fa ss k q hO gk gq k0 k1) kvX9_witnessAt kiX9_witnessAt kl_L_70 rfl rfl (As := [.int (zI k), .int (zI q)]) rfl rfl rfl dL_witnessAt_5 8 rfl ?_
  show V p l e (rmL 3 1 6) s m args below meth cd Q 5 s.heap [] 0 0 8 [(0, .ref x), (1, .int (zI k)), (2, .int (zI q)), (3, .ref oa)] [.int (zI (co 7 (k * 6 + q))), .int (zI 0), .ref oa]
  have hb_1 := hO.b7 (k * 6 + q)
  refine v_i2l X dL_witnessAt_8 9 rfl ?_
  refine v_last X hM h_out 0 rfl (Or.inl (fsH (by omega) (by omega))) dL_witnessAt_9 10 rfl (ws' := [(oa, .inl (E 102 4, 1, .inr (.inl (fun _ => zL (co 7 (k * 6 + q))))))]) rfl (fun H2 lo2 hzz hM hF h_out => ?_)
  clear hzz
  replace h_cm := h_cm.kept hF 1 rfl (fsd (by omega))
  replace h_co := h_co.kept hF 28 rfl (fsd (by omega))
  refine v_goto X dL_witnessAt_10 21 (by decide) ?_
  refine v_iconst X dL_witnessAt_21 22 rfl ?_
  subst hQ; exact m_iret X hr hlk hM dL_witnessAt_22 rfl ⟨rfl, h_out⟩
set_option maxHeartbeats 4000000 in
set_option maxRecDepth 20000 in
theorem w_X9_witnessAt_0_t (l : Launch) (hl : l.stackTraces = false) (E : Nat → Nat → Nat) (x : Nat) (co : Nat → Int → Int) (hs : Int) (er : Int) (fa : Int) (ss : Int) (k : Int) (q : Int) (oa : Nat) (lg : Nat → Int64) (hO : OkC co) (gk : Rg k) (gq : Rg q) (nk : ¬ (0 ≤ k ∧ k < co 0 0)) : MuW l yL_witnessAt cL_witnessAt 5 (some .int) [(0, 10, 13, 25), (0, 10, 17, 31)] 8 1 6 E [] [.ref x, .int (zI k), .int (zI q), .ref oa] (fun H => PR E x [(x, .inr (11, [.ref (x + 1), .ref (x + 29), .ref (x + 57), .ref (x + 85), .ref (x + 311), .ref (x + 314), .ref (x + 319), .ref (x + 332), .int (zI hs), .int (zI er), .int (zI fa), .int (zI ss)]))] H ∧ PR E (x + 1) (courtW E (x + 1) co) H ∧ PR E oa [(oa, .inl (E 102 4, 1, .inr (.inl lg)))] H) (fun rv H => rv = some (.int (zI 1))) := by
  refine MuW.start (own := RL) rfl (by decide +kernel) (Nat.le_of_ble_eq_true rfl) ?_
  intro p e s m below meth cd args Q hQ X hr hlk htab hM hPr
  obtain ⟨h_cm, h_co, h_out⟩ := hPr
  refine v_aload_n X dL_witnessAt_0 1 rfl 3 rfl ?_
  refine v_iconst X dL_witnessAt_1 2 rfl ?_
  refine v_aload_n X dL_witnessAt_2 3 rfl 0 rfl ?_
  refine v_iload_n X dL_witnessAt_3 4 rfl 1 rfl ?_
  refine v_iload_n X dL_witnessAt_4 5 rfl 2 rfl ?_
  have hht : HT RL "java/lang/IndexOutOfBoundsException" s [(0, 10, 13, 25), (0, 10, 17, 31)] 5 0 13 := ⟨(0, 10, 13, 25), rfl, rfl, by decide, by decide, xl_L_25, xc_IOB, by
    intro i z hi hz
    omega⟩
  refine v_txC X htab hM (h_cm.1) (x_X9_witnessAt_0 l hl E x co hs er fa ss k q hO gk gq nk) kvX9_witnessAt kiX9_witnessAt kl_L_70 (q0 := 0) rfl rfl (As := [.int (zI k), .int (zI q)]) rfl rfl rfl dL_witnessAt_5 0 13 hht (k' := 1) (n' := 6) rfl rfl (fun q hq => hq.elim) ⟨h_cm, h_co⟩ (fun q9 H1 lo1 hM hF hpo => ?_)
  replace h_cm := h_cm.kept hF 1 rfl (fun q _ _ h => h.elim)
  replace h_co := h_co.kept hF 28 rfl (fun q _ _ h => h.elim)
  replace h_out := h_out.kept hF 1 rfl (fun q _ _ h => h.elim)
  show V p l e (rmL 8 1 6) s m args below meth cd Q 5 H1 lo1 1 6 13 [(0, .ref x), (1, .int (zI k)), (2, .int (zI q)), (3, .ref oa)] [.ref q9]
  refine v_astore X dL_witnessAt_13 15 rfl (by decide) (L' := [(4, .ref q9), (0, .ref x), (1, .int (zI k)), (2, .int (zI q)), (3, .ref oa)]) rfl ?_
  refine v_iconst X dL_witnessAt_15 16 rfl ?_
  subst hQ; exact m_iret X hr hlk hM dL_witnessAt_16 rfl rfl
set_option maxHeartbeats 4000000 in
set_option maxRecDepth 20000 in
theorem w_X9_witnessAt_1_t (l : Launch) (hl : l.stackTraces = false) (E : Nat → Nat → Nat) (x : Nat) (co : Nat → Int → Int) (hs : Int) (er : Int) (fa : Int) (ss : Int) (k : Int) (q : Int) (oa : Nat) (lg : Nat → Int64) (hO : OkC co) (gk : Rg k) (gq : Rg q) (k0 : 0 ≤ k ∧ k < co 0 0) (nk : ¬ (0 ≤ q ∧ q < co 6 k)) : MuW l yL_witnessAt cL_witnessAt 5 (some .int) [(0, 10, 13, 25), (0, 10, 17, 31)] 7 1 6 E [] [.ref x, .int (zI k), .int (zI q), .ref oa] (fun H => PR E x [(x, .inr (11, [.ref (x + 1), .ref (x + 29), .ref (x + 57), .ref (x + 85), .ref (x + 311), .ref (x + 314), .ref (x + 319), .ref (x + 332), .int (zI hs), .int (zI er), .int (zI fa), .int (zI ss)]))] H ∧ PR E (x + 1) (courtW E (x + 1) co) H ∧ PR E oa [(oa, .inl (E 102 4, 1, .inr (.inl lg)))] H) (fun rv H => rv = some (.int (zI 2))) := by
  refine MuW.start (own := RL) rfl (by decide +kernel) (Nat.le_of_ble_eq_true rfl) ?_
  intro p e s m below meth cd args Q hQ X hr hlk htab hM hPr
  obtain ⟨h_cm, h_co, h_out⟩ := hPr
  refine v_aload_n X dL_witnessAt_0 1 rfl 3 rfl ?_
  refine v_iconst X dL_witnessAt_1 2 rfl ?_
  refine v_aload_n X dL_witnessAt_2 3 rfl 0 rfl ?_
  refine v_iload_n X dL_witnessAt_3 4 rfl 1 rfl ?_
  refine v_iload_n X dL_witnessAt_4 5 rfl 2 rfl ?_
  have hht : HT RL "java/util/NoSuchElementException" s [(0, 10, 13, 25), (0, 10, 17, 31)] 5 1 17 := ⟨(0, 10, 17, 31), rfl, rfl, by decide, by decide, xl_L_31, xc_NSE, by
    intro i z hi hz
    rcases (show i = 0 by omega) with rfl
    · cases hz; exact ⟨by decide, _, xl_L_25, hM.C.2.2.2.2.2.2.1 3 2 _ _ (by decide) rfl rfl⟩⟩
  refine v_txC X htab hM (h_cm.1) (x_X9_witnessAt_1 l hl E x co hs er fa ss k q hO gk gq k0 nk) kvX9_witnessAt kiX9_witnessAt kl_L_70 (q0 := 0) rfl rfl (As := [.int (zI k), .int (zI q)]) rfl rfl rfl dL_witnessAt_5 1 17 hht (k' := 1) (n' := 6) rfl rfl (fun q hq => hq.elim) ⟨h_cm, h_co⟩ (fun q9 H1 lo1 hM hF hpo => ?_)
  replace h_cm := h_cm.kept hF 1 rfl (fun q _ _ h => h.elim)
  replace h_co := h_co.kept hF 28 rfl (fun q _ _ h => h.elim)
  replace h_out := h_out.kept hF 1 rfl (fun q _ _ h => h.elim)
  show V p l e (rmL 7 1 6) s m args below meth cd Q 5 H1 lo1 1 6 17 [(0, .ref x), (1, .int (zI k)), (2, .int (zI q)), (3, .ref oa)] [.ref q9]
  refine v_astore X dL_witnessAt_17 19 rfl (by decide) (L' := [(4, .ref q9), (0, .ref x), (1, .int (zI k)), (2, .int (zI q)), (3, .ref oa)]) rfl ?_
  refine v_iconst X dL_witnessAt_19 20 rfl ?_
  subst hQ; exact m_iret X hr hlk hM dL_witnessAt_20 rfl rfl
set_option maxHeartbeats 4000000 in
set_option maxRecDepth 20000 in
theorem w_X9_hasTestified (l : Launch) (hl : l.stackTraces = false) (E : Nat → Nat → Nat) (x : Nat) (co : Nat → Int → Int) (hs : Int) (er : Int) (fa : Int) (ss : Int) (k : Int) (w : Int) (oa : Nat) (lg : Nat → Int64) (hO : OkC co) (gk : Rg k) (gw : Rg w) (k0 : 0 ≤ k ∧ k < co 0 0) (k1 : 0 ≤ w ∧ w < co 0 1) (hd_cm_out : x + 1 ≤ oa ∨ oa + 1 ≤ x) (hd_co_out : x + 1 + 28 ≤ oa ∨ oa + 1 ≤ x + 1) : MuW l yL_hasTestified cL_hasTestified 5 (some .int) [(0, 17, 20, 25)] 3 1 6 E [(oa, 1)] [.ref x, .int (zI k), .int (zI w), .ref oa] (fun H => PR E x [(x, .inr (11, [.ref (x + 1), .ref (x + 29), .ref (x + 57), .ref (x + 85), .ref (x + 311), .ref (x + 314), .ref (x + 319), .ref (x + 332), .int (zI hs), .int (zI er), .int (zI fa), .int (zI ss)]))] H ∧ PR E (x + 1) (courtW E (x + 1) co) H ∧ PR E oa [(oa, .inl (E 102 4, 1, .inr (.inl lg)))] H) (fun rv H => rv = some (.int (zI 0)) ∧ PR E oa [(oa, .inl (E 102 4, 1, .inr (.inl (fun _ => zL (bz (0 < co 9 (k * 8 + w)))))))] H) := by
  refine MuW.start (own := RL) rfl (by decide +kernel) (Nat.le_of_ble_eq_true rfl) ?_
  intro p e s m below meth cd args Q hQ X hr hlk htab hM hPr
  obtain ⟨h_cm, h_co, h_out⟩ := hPr
  refine v_aload_n X dL_hasTestified_0 1 rfl 3 rfl ?_
  refine v_iconst X dL_hasTestified_1 2 rfl ?_
  refine v_aload_n X dL_hasTestified_2 3 rfl 0 rfl ?_
  refine v_iload_n X dL_hasTestified_3 4 rfl 1 rfl ?_
  refine v_iload_n X dL_hasTestified_4 5 rfl 2 rfl ?_
  refine v_rdV X hM.C (PW.app h_cm.1 h_co.1) (c_X9_hasTestified l E x co hs er fa ss k w hO gk gw k0 k1) kvX9_hasTestified kiX9_hasTestified kl_L_73 rfl rfl (As := [.int (zI k), .int (zI w)]) rfl rfl rfl dL_hasTestified_5 8 rfl ?_
  show V p l e (rmL 3 1 6) s m args below meth cd Q 5 s.heap [] 0 0 8 [(0, .ref x), (1, .int (zI k)), (2, .int (zI w)), (3, .ref oa)] [.int (zI (bz (0 < co 9 (k * 8 + w)))), .int (zI 0), .ref oa]
  refine v_bif_eq X dL_hasTestified_8 11 15 rfl (by decide) (fun c_1 => ?_) (fun c_1 => ?_)
  · skip
    refine v_lconst 0 X dL_hasTestified_15 rfl 16 rfl ?_
    refine v_last X hM h_out 0 rfl (Or.inl (fsH (by omega) (by omega))) dL_hasTestified_16 17 rfl (ws' := [(oa, .inl (E 102 4, 1, .inr (.inl (fun _ => zL 0))))]) rfl (fun H2 lo2 hzz hM hF h_out => ?_)
    clear hzz
    replace h_cm := h_cm.kept hF 1 rfl (fsd (by omega))
    replace h_co := h_co.kept hF 28 rfl (fsd (by omega))
    refine v_goto X dL_hasTestified_17 24 (by decide) ?_
    refine v_iconst X dL_hasTestified_24 25 rfl ?_
    subst hQ; exact m_iret X hr hlk hM dL_hasTestified_25 rfl ⟨rfl, (PR.to h_out (by first | rw [bz_t (φ := 0 < co 9 (k * 8 + w)) (by assumption)] | rw [bz_f (φ := 0 < co 9 (k * 8 + w)) (by assumption)]))⟩
  · skip
    refine v_lconst 1 X dL_hasTestified_11 rfl 12 rfl ?_
    refine v_goto X dL_hasTestified_12 16 (by decide) ?_
    refine v_last X hM h_out 0 rfl (Or.inl (fsH (by omega) (by omega))) dL_hasTestified_16 17 rfl (ws' := [(oa, .inl (E 102 4, 1, .inr (.inl (fun _ => zL 1))))]) rfl (fun H3 lo3 hzz hM hF h_out => ?_)
    clear hzz
    replace h_cm := h_cm.kept hF 1 rfl (fsd (by omega))
    replace h_co := h_co.kept hF 28 rfl (fsd (by omega))
    refine v_goto X dL_hasTestified_17 24 (by decide) ?_
    refine v_iconst X dL_hasTestified_24 25 rfl ?_
    subst hQ; exact m_iret X hr hlk hM dL_hasTestified_25 rfl ⟨rfl, (PR.to h_out (by first | rw [bz_t (φ := 0 < co 9 (k * 8 + w)) (by assumption)] | rw [bz_f (φ := 0 < co 9 (k * 8 + w)) (by assumption)]))⟩
set_option maxHeartbeats 4000000 in
set_option maxRecDepth 20000 in
theorem w_X9_hasTestified_0_t (l : Launch) (hl : l.stackTraces = false) (E : Nat → Nat → Nat) (x : Nat) (co : Nat → Int → Int) (hs : Int) (er : Int) (fa : Int) (ss : Int) (k : Int) (w : Int) (oa : Nat) (lg : Nat → Int64) (hO : OkC co) (gk : Rg k) (gw : Rg w) (nk : ¬ (0 ≤ k ∧ k < co 0 0)) : MuW l yL_hasTestified cL_hasTestified 5 (some .int) [(0, 17, 20, 25)] 8 1 6 E [] [.ref x, .int (zI k), .int (zI w), .ref oa] (fun H => PR E x [(x, .inr (11, [.ref (x + 1), .ref (x + 29), .ref (x + 57), .ref (x + 85), .ref (x + 311), .ref (x + 314), .ref (x + 319), .ref (x + 332), .int (zI hs), .int (zI er), .int (zI fa), .int (zI ss)]))] H ∧ PR E (x + 1) (courtW E (x + 1) co) H ∧ PR E oa [(oa, .inl (E 102 4, 1, .inr (.inl lg)))] H) (fun rv H => rv = some (.int (zI 1))) := by
  refine MuW.start (own := RL) rfl (by decide +kernel) (Nat.le_of_ble_eq_true rfl) ?_
  intro p e s m below meth cd args Q hQ X hr hlk htab hM hPr
  obtain ⟨h_cm, h_co, h_out⟩ := hPr
  refine v_aload_n X dL_hasTestified_0 1 rfl 3 rfl ?_
  refine v_iconst X dL_hasTestified_1 2 rfl ?_
  refine v_aload_n X dL_hasTestified_2 3 rfl 0 rfl ?_
  refine v_iload_n X dL_hasTestified_3 4 rfl 1 rfl ?_
  refine v_iload_n X dL_hasTestified_4 5 rfl 2 rfl ?_
  have hht : HT RL "java/lang/IndexOutOfBoundsException" s [(0, 17, 20, 25)] 5 0 20 := ⟨(0, 17, 20, 25), rfl, rfl, by decide, by decide, xl_L_25, xc_IOB, by
    intro i z hi hz
    omega⟩
  refine v_txC X htab hM (h_cm.1) (x_X9_hasTestified_0 l hl E x co hs er fa ss k w hO gk gw nk) kvX9_hasTestified kiX9_hasTestified kl_L_73 (q0 := 0) rfl rfl (As := [.int (zI k), .int (zI w)]) rfl rfl rfl dL_hasTestified_5 0 20 hht (k' := 1) (n' := 6) rfl rfl (fun q hq => hq.elim) ⟨h_cm, h_co⟩ (fun q9 H1 lo1 hM hF hpo => ?_)
  replace h_cm := h_cm.kept hF 1 rfl (fun q _ _ h => h.elim)
  replace h_co := h_co.kept hF 28 rfl (fun q _ _ h => h.elim)
  replace h_out := h_out.kept hF 1 rfl (fun q _ _ h => h.elim)
  show V p l e (rmL 8 1 6) s m args below meth cd Q 5 H1 lo1 1 6 20 [(0, .ref x), (1, .int (zI k)), (2, .int (zI w)), (3, .ref oa)] [.ref q9]
  refine v_astore X dL_hasTestified_20 22 rfl (by decide) (L' := [(4, .ref q9), (0, .ref x), (1, .int (zI k)), (2, .int (zI w)), (3, .ref oa)]) rfl ?_
  refine v_iconst X dL_hasTestified_22 23 rfl ?_
  subst hQ; exact m_iret X hr hlk hM dL_hasTestified_23 rfl rfl
set_option maxHeartbeats 4000000 in
set_option maxRecDepth 20000 in
theorem w_X9_hasTestified_1_t (l : Launch) (hl : l.stackTraces = false) (E : Nat → Nat → Nat) (x : Nat) (co : Nat → Int → Int) (hs : Int) (er : Int) (fa : Int) (ss : Int) (k : Int) (w : Int) (oa : Nat) (lg : Nat → Int64) (hO : OkC co) (gk : Rg k) (gw : Rg w) (k0 : 0 ≤ k ∧ k < co 0 0) (nk : ¬ (0 ≤ w ∧ w < co 0 1)) : MuW l yL_hasTestified cL_hasTestified 5 (some .int) [(0, 17, 20, 25)] 8 1 6 E [] [.ref x, .int (zI k), .int (zI w), .ref oa] (fun H => PR E x [(x, .inr (11, [.ref (x + 1), .ref (x + 29), .ref (x + 57), .ref (x + 85), .ref (x + 311), .ref (x + 314), .ref (x + 319), .ref (x + 332), .int (zI hs), .int (zI er), .int (zI fa), .int (zI ss)]))] H ∧ PR E (x + 1) (courtW E (x + 1) co) H ∧ PR E oa [(oa, .inl (E 102 4, 1, .inr (.inl lg)))] H) (fun rv H => rv = some (.int (zI 1))) := by
  refine MuW.start (own := RL) rfl (by decide +kernel) (Nat.le_of_ble_eq_true rfl) ?_
  intro p e s m below meth cd args Q hQ X hr hlk htab hM hPr
  obtain ⟨h_cm, h_co, h_out⟩ := hPr
  refine v_aload_n X dL_hasTestified_0 1 rfl 3 rfl ?_
  refine v_iconst X dL_hasTestified_1 2 rfl ?_
  refine v_aload_n X dL_hasTestified_2 3 rfl 0 rfl ?_
  refine v_iload_n X dL_hasTestified_3 4 rfl 1 rfl ?_
  refine v_iload_n X dL_hasTestified_4 5 rfl 2 rfl ?_
  have hht : HT RL "java/lang/IndexOutOfBoundsException" s [(0, 17, 20, 25)] 5 0 20 := ⟨(0, 17, 20, 25), rfl, rfl, by decide, by decide, xl_L_25, xc_IOB, by
    intro i z hi hz
    omega⟩
  refine v_txC X htab hM (h_cm.1) (x_X9_hasTestified_1 l hl E x co hs er fa ss k w hO gk gw k0 nk) kvX9_hasTestified kiX9_hasTestified kl_L_73 (q0 := 0) rfl rfl (As := [.int (zI k), .int (zI w)]) rfl rfl rfl dL_hasTestified_5 0 20 hht (k' := 1) (n' := 6) rfl rfl (fun q hq => hq.elim) ⟨h_cm, h_co⟩ (fun q9 H1 lo1 hM hF hpo => ?_)
  replace h_cm := h_cm.kept hF 1 rfl (fun q _ _ h => h.elim)
  replace h_co := h_co.kept hF 28 rfl (fun q _ _ h => h.elim)
  replace h_out := h_out.kept hF 1 rfl (fun q _ _ h => h.elim)
  show V p l e (rmL 8 1 6) s m args below meth cd Q 5 H1 lo1 1 6 20 [(0, .ref x), (1, .int (zI k)), (2, .int (zI w)), (3, .ref oa)] [.ref q9]
  refine v_astore X dL_hasTestified_20 22 rfl (by decide) (L' := [(4, .ref q9), (0, .ref x), (1, .int (zI k)), (2, .int (zI w)), (3, .ref oa)]) rfl ?_
  refine v_iconst X dL_hasTestified_22 23 rfl ?_
  subst hQ; exact m_iret X hr hlk hM dL_hasTestified_23 rfl rfl
set_option maxHeartbeats 4000000 in
set_option maxRecDepth 20000 in
theorem w_X9_isForProsecution (l : Launch) (hl : l.stackTraces = false) (E : Nat → Nat → Nat) (x : Nat) (co : Nat → Int → Int) (hs : Int) (er : Int) (fa : Int) (ss : Int) (k : Int) (w : Int) (oa : Nat) (lg : Nat → Int64) (hO : OkC co) (gk : Rg k) (gw : Rg w) (k0 : 0 ≤ k ∧ k < co 0 0) (k1 : 0 ≤ w ∧ w < co 0 1) (k2 : 0 < co 9 (k * 8 + w)) (hd_cm_out : x + 1 ≤ oa ∨ oa + 1 ≤ x) (hd_co_out : x + 1 + 28 ≤ oa ∨ oa + 1 ≤ x + 1) : MuW l yL_isForProsecution cL_isForProsecution 5 (some .int) [(0, 17, 20, 25), (0, 17, 24, 31)] 4 1 6 E [(oa, 1)] [.ref x, .int (zI k), .int (zI w), .ref oa] (fun H => PR E x [(x, .inr (11, [.ref (x + 1), .ref (x + 29), .ref (x + 57), .ref (x + 85), .ref (x + 311), .ref (x + 314), .ref (x + 319), .ref (x + 332), .int (zI hs), .int (zI er), .int (zI fa), .int (zI ss)]))] H ∧ PR E (x + 1) (courtW E (x + 1) co) H ∧ PR E oa [(oa, .inl (E 102 4, 1, .inr (.inl lg)))] H) (fun rv H => rv = some (.int (zI 0)) ∧ PR E oa [(oa, .inl (E 102 4, 1, .inr (.inl (fun _ => zL (bz (0 < co 8 (k * 8 + w)))))))] H) := by
  refine MuW.start (own := RL) rfl (by decide +kernel) (Nat.le_of_ble_eq_true rfl) ?_
  intro p e s m below meth cd args Q hQ X hr hlk htab hM hPr
  obtain ⟨h_cm, h_co, h_out⟩ := hPr
  refine v_aload_n X dL_isForProsecution_0 1 rfl 3 rfl ?_
  refine v_iconst X dL_isForProsecution_1 2 rfl ?_
  refine v_aload_n X dL_isForProsecution_2 3 rfl 0 rfl ?_
  refine v_iload_n X dL_isForProsecution_3 4 rfl 1 rfl ?_
  refine v_iload_n X dL_isForProsecution_4 5 rfl 2 rfl ?_
  refine v_rdV X hM.C (PW.app h_cm.1 h_co.1) (c_X9_isForProsecution l E x co hs er fa ss k w hO gk gw k0 k1 k2) kvX9_isForProsecution kiX9_isForProsecution kl_L_77 rfl rfl (As := [.int (zI k), .int (zI w)]) rfl rfl rfl dL_isForProsecution_5 8 rfl ?_
  show V p l e (rmL 4 1 6) s m args below meth cd Q 5 s.heap [] 0 0 8 [(0, .ref x), (1, .int (zI k)), (2, .int (zI w)), (3, .ref oa)] [.int (zI (bz (0 < co 8 (k * 8 + w)))), .int (zI 0), .ref oa]
  refine v_bif_eq X dL_isForProsecution_8 11 15 rfl (by decide) (fun c_1 => ?_) (fun c_1 => ?_)
  · skip
    refine v_lconst 0 X dL_isForProsecution_15 rfl 16 rfl ?_
    refine v_last X hM h_out 0 rfl (Or.inl (fsH (by omega) (by omega))) dL_isForProsecution_16 17 rfl (ws' := [(oa, .inl (E 102 4, 1, .inr (.inl (fun _ => zL 0))))]) rfl (fun H2 lo2 hzz hM hF h_out => ?_)
    clear hzz
    replace h_cm := h_cm.kept hF 1 rfl (fsd (by omega))
    replace h_co := h_co.kept hF 28 rfl (fsd (by omega))
    refine v_goto X dL_isForProsecution_17 28 (by decide) ?_
    refine v_iconst X dL_isForProsecution_28 29 rfl ?_
    subst hQ; exact m_iret X hr hlk hM dL_isForProsecution_29 rfl ⟨rfl, (PR.to h_out (by first | rw [bz_t (φ := 0 < co 8 (k * 8 + w)) (by assumption)] | rw [bz_f (φ := 0 < co 8 (k * 8 + w)) (by assumption)]))⟩
  · skip
    refine v_lconst 1 X dL_isForProsecution_11 rfl 12 rfl ?_
    refine v_goto X dL_isForProsecution_12 16 (by decide) ?_
    refine v_last X hM h_out 0 rfl (Or.inl (fsH (by omega) (by omega))) dL_isForProsecution_16 17 rfl (ws' := [(oa, .inl (E 102 4, 1, .inr (.inl (fun _ => zL 1))))]) rfl (fun H3 lo3 hzz hM hF h_out => ?_)
    clear hzz
    replace h_cm := h_cm.kept hF 1 rfl (fsd (by omega))
    replace h_co := h_co.kept hF 28 rfl (fsd (by omega))
    refine v_goto X dL_isForProsecution_17 28 (by decide) ?_
    refine v_iconst X dL_isForProsecution_28 29 rfl ?_
    subst hQ; exact m_iret X hr hlk hM dL_isForProsecution_29 rfl ⟨rfl, (PR.to h_out (by first | rw [bz_t (φ := 0 < co 8 (k * 8 + w)) (by assumption)] | rw [bz_f (φ := 0 < co 8 (k * 8 + w)) (by assumption)]))⟩
set_option maxHeartbeats 4000000 in
set_option maxRecDepth 20000 in
theorem w_X9_isForProsecution_0_t (l : Launch) (hl : l.stackTraces = false) (E : Nat → Nat → Nat) (x : Nat) (co : Nat → Int → Int) (hs : Int) (er : Int) (fa : Int) (ss : Int) (k : Int) (w : Int) (oa : Nat) (lg : Nat → Int64) (hO : OkC co) (gk : Rg k) (gw : Rg w) (nk : ¬ (0 ≤ k ∧ k < co 0 0)) : MuW l yL_isForProsecution cL_isForProsecution 5 (some .int) [(0, 17, 20, 25), (0, 17, 24, 31)] 9 1 6 E [] [.ref x, .int (zI k), .int (zI w), .ref oa] (fun H => PR E x [(x, .inr (11, [.ref (x + 1), .ref (x + 29), .ref (x + 57), .ref (x + 85), .ref (x + 311), .ref (x + 314), .ref (x + 319), .ref (x + 332), .int (zI hs), .int (zI er), .int (zI fa), .int (zI ss)]))] H ∧ PR E (x + 1) (courtW E (x + 1) co) H ∧ PR E oa [(oa, .inl (E 102 4, 1, .inr (.inl lg)))] H) (fun rv H => rv = some (.int (zI 1))) := by
  refine MuW.start (own := RL) rfl (by decide +kernel) (Nat.le_of_ble_eq_true rfl) ?_
  intro p e s m below meth cd args Q hQ X hr hlk htab hM hPr
  obtain ⟨h_cm, h_co, h_out⟩ := hPr
  refine v_aload_n X dL_isForProsecution_0 1 rfl 3 rfl ?_
  refine v_iconst X dL_isForProsecution_1 2 rfl ?_
  refine v_aload_n X dL_isForProsecution_2 3 rfl 0 rfl ?_
  refine v_iload_n X dL_isForProsecution_3 4 rfl 1 rfl ?_
  refine v_iload_n X dL_isForProsecution_4 5 rfl 2 rfl ?_
  have hht : HT RL "java/lang/IndexOutOfBoundsException" s [(0, 17, 20, 25), (0, 17, 24, 31)] 5 0 20 := ⟨(0, 17, 20, 25), rfl, rfl, by decide, by decide, xl_L_25, xc_IOB, by
    intro i z hi hz
    omega⟩
  refine v_txC X htab hM (h_cm.1) (x_X9_isForProsecution_0 l hl E x co hs er fa ss k w hO gk gw nk) kvX9_isForProsecution kiX9_isForProsecution kl_L_77 (q0 := 0) rfl rfl (As := [.int (zI k), .int (zI w)]) rfl rfl rfl dL_isForProsecution_5 0 20 hht (k' := 1) (n' := 6) rfl rfl (fun q hq => hq.elim) ⟨h_cm, h_co⟩ (fun q9 H1 lo1 hM hF hpo => ?_)
  replace h_cm := h_cm.kept hF 1 rfl (fun q _ _ h => h.elim)
  replace h_co := h_co.kept hF 28 rfl (fun q _ _ h => h.elim)
  replace h_out := h_out.kept hF 1 rfl (fun q _ _ h => h.elim)
  show V p l e (rmL 9 1 6) s m args below meth cd Q 5 H1 lo1 1 6 20 [(0, .ref x), (1, .int (zI k)), (2, .int (zI w)), (3, .ref oa)] [.ref q9]
  refine v_astore X dL_isForProsecution_20 22 rfl (by decide) (L' := [(4, .ref q9), (0, .ref x), (1, .int (zI k)), (2, .int (zI w)), (3, .ref oa)]) rfl ?_
  refine v_iconst X dL_isForProsecution_22 23 rfl ?_
  subst hQ; exact m_iret X hr hlk hM dL_isForProsecution_23 rfl rfl
set_option maxHeartbeats 4000000 in
set_option maxRecDepth 20000 in
theorem w_X9_isForProsecution_1_t (l : Launch) (hl : l.stackTraces = false) (E : Nat → Nat → Nat) (x : Nat) (co : Nat → Int → Int) (hs : Int) (er : Int) (fa : Int) (ss : Int) (k : Int) (w : Int) (oa : Nat) (lg : Nat → Int64) (hO : OkC co) (gk : Rg k) (gw : Rg w) (k0 : 0 ≤ k ∧ k < co 0 0) (nk : ¬ (0 ≤ w ∧ w < co 0 1)) : MuW l yL_isForProsecution cL_isForProsecution 5 (some .int) [(0, 17, 20, 25), (0, 17, 24, 31)] 9 1 6 E [] [.ref x, .int (zI k), .int (zI w), .ref oa] (fun H => PR E x [(x, .inr (11, [.ref (x + 1), .ref (x + 29), .ref (x + 57), .ref (x + 85), .ref (x + 311), .ref (x + 314), .ref (x + 319), .ref (x + 332), .int (zI hs), .int (zI er), .int (zI fa), .int (zI ss)]))] H ∧ PR E (x + 1) (courtW E (x + 1) co) H ∧ PR E oa [(oa, .inl (E 102 4, 1, .inr (.inl lg)))] H) (fun rv H => rv = some (.int (zI 1))) := by
  refine MuW.start (own := RL) rfl (by decide +kernel) (Nat.le_of_ble_eq_true rfl) ?_
  intro p e s m below meth cd args Q hQ X hr hlk htab hM hPr
  obtain ⟨h_cm, h_co, h_out⟩ := hPr
  refine v_aload_n X dL_isForProsecution_0 1 rfl 3 rfl ?_
  refine v_iconst X dL_isForProsecution_1 2 rfl ?_
  refine v_aload_n X dL_isForProsecution_2 3 rfl 0 rfl ?_
  refine v_iload_n X dL_isForProsecution_3 4 rfl 1 rfl ?_
  refine v_iload_n X dL_isForProsecution_4 5 rfl 2 rfl ?_
  have hht : HT RL "java/lang/IndexOutOfBoundsException" s [(0, 17, 20, 25), (0, 17, 24, 31)] 5 0 20 := ⟨(0, 17, 20, 25), rfl, rfl, by decide, by decide, xl_L_25, xc_IOB, by
    intro i z hi hz
    omega⟩
  refine v_txC X htab hM (h_cm.1) (x_X9_isForProsecution_1 l hl E x co hs er fa ss k w hO gk gw k0 nk) kvX9_isForProsecution kiX9_isForProsecution kl_L_77 (q0 := 0) rfl rfl (As := [.int (zI k), .int (zI w)]) rfl rfl rfl dL_isForProsecution_5 0 20 hht (k' := 1) (n' := 6) rfl rfl (fun q hq => hq.elim) ⟨h_cm, h_co⟩ (fun q9 H1 lo1 hM hF hpo => ?_)
  replace h_cm := h_cm.kept hF 1 rfl (fun q _ _ h => h.elim)
  replace h_co := h_co.kept hF 28 rfl (fun q _ _ h => h.elim)
  replace h_out := h_out.kept hF 1 rfl (fun q _ _ h => h.elim)
  show V p l e (rmL 9 1 6) s m args below meth cd Q 5 H1 lo1 1 6 20 [(0, .ref x), (1, .int (zI k)), (2, .int (zI w)), (3, .ref oa)] [.ref q9]
  refine v_astore X dL_isForProsecution_20 22 rfl (by decide) (L' := [(4, .ref q9), (0, .ref x), (1, .int (zI k)), (2, .int (zI w)), (3, .ref oa)]) rfl ?_
  refine v_iconst X dL_isForProsecution_22 23 rfl ?_
  subst hQ; exact m_iret X hr hlk hM dL_isForProsecution_23 rfl rfl
set_option maxHeartbeats 4000000 in
set_option maxRecDepth 20000 in
theorem w_X9_isForProsecution_2_t (l : Launch) (hl : l.stackTraces = false) (E : Nat → Nat → Nat) (x : Nat) (co : Nat → Int → Int) (hs : Int) (er : Int) (fa : Int) (ss : Int) (k : Int) (w : Int) (oa : Nat) (lg : Nat → Int64) (hO : OkC co) (gk : Rg k) (gw : Rg w) (k0 : 0 ≤ k ∧ k < co 0 0) (k1 : 0 ≤ w ∧ w < co 0 1) (nk : ¬ (0 < co 9 (k * 8 + w))) : MuW l yL_isForProsecution cL_isForProsecution 5 (some .int) [(0, 17, 20, 25), (0, 17, 24, 31)] 8 1 6 E [] [.ref x, .int (zI k), .int (zI w), .ref oa] (fun H => PR E x [(x, .inr (11, [.ref (x + 1), .ref (x + 29), .ref (x + 57), .ref (x + 85), .ref (x + 311), .ref (x + 314), .ref (x + 319), .ref (x + 332), .int (zI hs), .int (zI er), .int (zI fa), .int (zI ss)]))] H ∧ PR E (x + 1) (courtW E (x + 1) co) H ∧ PR E oa [(oa, .inl (E 102 4, 1, .inr (.inl lg)))] H) (fun rv H => rv = some (.int (zI 2))) := by
  refine MuW.start (own := RL) rfl (by decide +kernel) (Nat.le_of_ble_eq_true rfl) ?_
  intro p e s m below meth cd args Q hQ X hr hlk htab hM hPr
  obtain ⟨h_cm, h_co, h_out⟩ := hPr
  refine v_aload_n X dL_isForProsecution_0 1 rfl 3 rfl ?_
  refine v_iconst X dL_isForProsecution_1 2 rfl ?_
  refine v_aload_n X dL_isForProsecution_2 3 rfl 0 rfl ?_
  refine v_iload_n X dL_isForProsecution_3 4 rfl 1 rfl ?_
  refine v_iload_n X dL_isForProsecution_4 5 rfl 2 rfl ?_
  have hht : HT RL "java/util/NoSuchElementException" s [(0, 17, 20, 25), (0, 17, 24, 31)] 5 1 24 := ⟨(0, 17, 24, 31), rfl, rfl, by decide, by decide, xl_L_31, xc_NSE, by
    intro i z hi hz
    rcases (show i = 0 by omega) with rfl
    · cases hz; exact ⟨by decide, _, xl_L_25, hM.C.2.2.2.2.2.2.1 3 2 _ _ (by decide) rfl rfl⟩⟩
  refine v_txC X htab hM (h_cm.1) (x_X9_isForProsecution_2 l hl E x co hs er fa ss k w hO gk gw k0 k1 nk) kvX9_isForProsecution kiX9_isForProsecution kl_L_77 (q0 := 0) rfl rfl (As := [.int (zI k), .int (zI w)]) rfl rfl rfl dL_isForProsecution_5 1 24 hht (k' := 1) (n' := 6) rfl rfl (fun q hq => hq.elim) ⟨h_cm, h_co⟩ (fun q9 H1 lo1 hM hF hpo => ?_)
  replace h_cm := h_cm.kept hF 1 rfl (fun q _ _ h => h.elim)
  replace h_co := h_co.kept hF 28 rfl (fun q _ _ h => h.elim)
  replace h_out := h_out.kept hF 1 rfl (fun q _ _ h => h.elim)
  show V p l e (rmL 8 1 6) s m args below meth cd Q 5 H1 lo1 1 6 24 [(0, .ref x), (1, .int (zI k)), (2, .int (zI w)), (3, .ref oa)] [.ref q9]
  refine v_astore X dL_isForProsecution_24 26 rfl (by decide) (L' := [(4, .ref q9), (0, .ref x), (1, .int (zI k)), (2, .int (zI w)), (3, .ref oa)]) rfl ?_
  refine v_iconst X dL_isForProsecution_26 27 rfl ?_
  subst hQ; exact m_iret X hr hlk hM dL_isForProsecution_27 rfl rfl
set_option maxHeartbeats 4000000 in
set_option maxRecDepth 20000 in
theorem w_X9_strength (l : Launch) (hl : l.stackTraces = false) (E : Nat → Nat → Nat) (x : Nat) (co : Nat → Int → Int) (hs : Int) (er : Int) (fa : Int) (ss : Int) (k : Int) (w : Int) (oa : Nat) (lg : Nat → Int64) (hO : OkC co) (gk : Rg k) (gw : Rg w) (k0 : 0 ≤ k ∧ k < co 0 0) (k1 : 0 ≤ w ∧ w < co 0 1) (k2 : 0 < co 9 (k * 8 + w)) (hd_cm_out : x + 1 ≤ oa ∨ oa + 1 ≤ x) (hd_co_out : x + 1 + 28 ≤ oa ∨ oa + 1 ≤ x + 1) : MuW l yL_strength cL_strength 5 (some .int) [(0, 10, 13, 25), (0, 10, 17, 31)] 4 1 6 E [(oa, 1)] [.ref x, .int (zI k), .int (zI w), .ref oa] (fun H => PR E x [(x, .inr (11, [.ref (x + 1), .ref (x + 29), .ref (x + 57), .ref (x + 85), .ref (x + 311), .ref (x + 314), .ref (x + 319), .ref (x + 332), .int (zI hs), .int (zI er), .int (zI fa), .int (zI ss)]))] H ∧ PR E (x + 1) (courtW E (x + 1) co) H ∧ PR E oa [(oa, .inl (E 102 4, 1, .inr (.inl lg)))] H) (fun rv H => rv = some (.int (zI 0)) ∧ PR E oa [(oa, .inl (E 102 4, 1, .inr (.inl (fun _ => zL (co 9 (k * 8 + w))))))] H) := by
  refine MuW.start (own := RL) rfl (by decide +kernel) (Nat.le_of_ble_eq_true rfl) ?_
  intro p e s m below meth cd args Q hQ X hr hlk htab hM hPr
  obtain ⟨h_cm, h_co, h_out⟩ := hPr
  refine v_aload_n X dL_strength_0 1 rfl 3 rfl ?_
  refine v_iconst X dL_strength_1 2 rfl ?_
  refine v_aload_n X dL_strength_2 3 rfl 0 rfl ?_
  refine v_iload_n X dL_strength_3 4 rfl 1 rfl ?_
  refine v_iload_n X dL_strength_4 5 rfl 2 rfl ?_
  refine v_rdV X hM.C (PW.app h_cm.1 h_co.1) (c_X9_strength l E x co hs er fa ss k w hO gk gw k0 k1 k2) kvX9_strength kiX9_strength kl_L_80 rfl rfl (As := [.int (zI k), .int (zI w)]) rfl rfl rfl dL_strength_5 8 rfl ?_
  show V p l e (rmL 4 1 6) s m args below meth cd Q 5 s.heap [] 0 0 8 [(0, .ref x), (1, .int (zI k)), (2, .int (zI w)), (3, .ref oa)] [.int (zI (co 9 (k * 8 + w))), .int (zI 0), .ref oa]
  have hb_1 := hO.b9 (k * 8 + w)
  refine v_i2l X dL_strength_8 9 rfl ?_
  refine v_last X hM h_out 0 rfl (Or.inl (fsH (by omega) (by omega))) dL_strength_9 10 rfl (ws' := [(oa, .inl (E 102 4, 1, .inr (.inl (fun _ => zL (co 9 (k * 8 + w))))))]) rfl (fun H2 lo2 hzz hM hF h_out => ?_)
  clear hzz
  replace h_cm := h_cm.kept hF 1 rfl (fsd (by omega))
  replace h_co := h_co.kept hF 28 rfl (fsd (by omega))
  refine v_goto X dL_strength_10 21 (by decide) ?_
  refine v_iconst X dL_strength_21 22 rfl ?_
  subst hQ; exact m_iret X hr hlk hM dL_strength_22 rfl ⟨rfl, h_out⟩
set_option maxHeartbeats 4000000 in
set_option maxRecDepth 20000 in
theorem w_X9_strength_0_t (l : Launch) (hl : l.stackTraces = false) (E : Nat → Nat → Nat) (x : Nat) (co : Nat → Int → Int) (hs : Int) (er : Int) (fa : Int) (ss : Int) (k : Int) (w : Int) (oa : Nat) (lg : Nat → Int64) (hO : OkC co) (gk : Rg k) (gw : Rg w) (nk : ¬ (0 ≤ k ∧ k < co 0 0)) : MuW l yL_strength cL_strength 5 (some .int) [(0, 10, 13, 25), (0, 10, 17, 31)] 9 1 6 E [] [.ref x, .int (zI k), .int (zI w), .ref oa] (fun H => PR E x [(x, .inr (11, [.ref (x + 1), .ref (x + 29), .ref (x + 57), .ref (x + 85), .ref (x + 311), .ref (x + 314), .ref (x + 319), .ref (x + 332), .int (zI hs), .int (zI er), .int (zI fa), .int (zI ss)]))] H ∧ PR E (x + 1) (courtW E (x + 1) co) H ∧ PR E oa [(oa, .inl (E 102 4, 1, .inr (.inl lg)))] H) (fun rv H => rv = some (.int (zI 1))) := by
  refine MuW.start (own := RL) rfl (by decide +kernel) (Nat.le_of_ble_eq_true rfl) ?_
  intro p e s m below meth cd args Q hQ X hr hlk htab hM hPr
  obtain ⟨h_cm, h_co, h_out⟩ := hPr
  refine v_aload_n X dL_strength_0 1 rfl 3 rfl ?_
  refine v_iconst X dL_strength_1 2 rfl ?_
  refine v_aload_n X dL_strength_2 3 rfl 0 rfl ?_
  refine v_iload_n X dL_strength_3 4 rfl 1 rfl ?_
  refine v_iload_n X dL_strength_4 5 rfl 2 rfl ?_
  have hht : HT RL "java/lang/IndexOutOfBoundsException" s [(0, 10, 13, 25), (0, 10, 17, 31)] 5 0 13 := ⟨(0, 10, 13, 25), rfl, rfl, by decide, by decide, xl_L_25, xc_IOB, by
    intro i z hi hz
    omega⟩
  refine v_txC X htab hM (h_cm.1) (x_X9_strength_0 l hl E x co hs er fa ss k w hO gk gw nk) kvX9_strength kiX9_strength kl_L_80 (q0 := 0) rfl rfl (As := [.int (zI k), .int (zI w)]) rfl rfl rfl dL_strength_5 0 13 hht (k' := 1) (n' := 6) rfl rfl (fun q hq => hq.elim) ⟨h_cm, h_co⟩ (fun q9 H1 lo1 hM hF hpo => ?_)
  replace h_cm := h_cm.kept hF 1 rfl (fun q _ _ h => h.elim)
  replace h_co := h_co.kept hF 28 rfl (fun q _ _ h => h.elim)
  replace h_out := h_out.kept hF 1 rfl (fun q _ _ h => h.elim)
  show V p l e (rmL 9 1 6) s m args below meth cd Q 5 H1 lo1 1 6 13 [(0, .ref x), (1, .int (zI k)), (2, .int (zI w)), (3, .ref oa)] [.ref q9]
  refine v_astore X dL_strength_13 15 rfl (by decide) (L' := [(4, .ref q9), (0, .ref x), (1, .int (zI k)), (2, .int (zI w)), (3, .ref oa)]) rfl ?_
  refine v_iconst X dL_strength_15 16 rfl ?_
  subst hQ; exact m_iret X hr hlk hM dL_strength_16 rfl rfl
set_option maxHeartbeats 4000000 in
set_option maxRecDepth 20000 in
theorem w_X9_strength_1_t (l : Launch) (hl : l.stackTraces = false) (E : Nat → Nat → Nat) (x : Nat) (co : Nat → Int → Int) (hs : Int) (er : Int) (fa : Int) (ss : Int) (k : Int) (w : Int) (oa : Nat) (lg : Nat → Int64) (hO : OkC co) (gk : Rg k) (gw : Rg w) (k0 : 0 ≤ k ∧ k < co 0 0) (nk : ¬ (0 ≤ w ∧ w < co 0 1)) : MuW l yL_strength cL_strength 5 (some .int) [(0, 10, 13, 25), (0, 10, 17, 31)] 9 1 6 E [] [.ref x, .int (zI k), .int (zI w), .ref oa] (fun H => PR E x [(x, .inr (11, [.ref (x + 1), .ref (x + 29), .ref (x + 57), .ref (x + 85), .ref (x + 311), .ref (x + 314), .ref (x + 319), .ref (x + 332), .int (zI hs), .int (zI er), .int (zI fa), .int (zI ss)]))] H ∧ PR E (x + 1) (courtW E (x + 1) co) H ∧ PR E oa [(oa, .inl (E 102 4, 1, .inr (.inl lg)))] H) (fun rv H => rv = some (.int (zI 1))) := by
  refine MuW.start (own := RL) rfl (by decide +kernel) (Nat.le_of_ble_eq_true rfl) ?_
  intro p e s m below meth cd args Q hQ X hr hlk htab hM hPr
  obtain ⟨h_cm, h_co, h_out⟩ := hPr
  refine v_aload_n X dL_strength_0 1 rfl 3 rfl ?_
  refine v_iconst X dL_strength_1 2 rfl ?_
  refine v_aload_n X dL_strength_2 3 rfl 0 rfl ?_
  refine v_iload_n X dL_strength_3 4 rfl 1 rfl ?_
  refine v_iload_n X dL_strength_4 5 rfl 2 rfl ?_
  have hht : HT RL "java/lang/IndexOutOfBoundsException" s [(0, 10, 13, 25), (0, 10, 17, 31)] 5 0 13 := ⟨(0, 10, 13, 25), rfl, rfl, by decide, by decide, xl_L_25, xc_IOB, by
    intro i z hi hz
    omega⟩
  refine v_txC X htab hM (h_cm.1) (x_X9_strength_1 l hl E x co hs er fa ss k w hO gk gw k0 nk) kvX9_strength kiX9_strength kl_L_80 (q0 := 0) rfl rfl (As := [.int (zI k), .int (zI w)]) rfl rfl rfl dL_strength_5 0 13 hht (k' := 1) (n' := 6) rfl rfl (fun q hq => hq.elim) ⟨h_cm, h_co⟩ (fun q9 H1 lo1 hM hF hpo => ?_)
  replace h_cm := h_cm.kept hF 1 rfl (fun q _ _ h => h.elim)
  replace h_co := h_co.kept hF 28 rfl (fun q _ _ h => h.elim)
  replace h_out := h_out.kept hF 1 rfl (fun q _ _ h => h.elim)
  show V p l e (rmL 9 1 6) s m args below meth cd Q 5 H1 lo1 1 6 13 [(0, .ref x), (1, .int (zI k)), (2, .int (zI w)), (3, .ref oa)] [.ref q9]
  refine v_astore X dL_strength_13 15 rfl (by decide) (L' := [(4, .ref q9), (0, .ref x), (1, .int (zI k)), (2, .int (zI w)), (3, .ref oa)]) rfl ?_
  refine v_iconst X dL_strength_15 16 rfl ?_
  subst hQ; exact m_iret X hr hlk hM dL_strength_16 rfl rfl
set_option maxHeartbeats 4000000 in
set_option maxRecDepth 20000 in
theorem w_X9_strength_2_t (l : Launch) (hl : l.stackTraces = false) (E : Nat → Nat → Nat) (x : Nat) (co : Nat → Int → Int) (hs : Int) (er : Int) (fa : Int) (ss : Int) (k : Int) (w : Int) (oa : Nat) (lg : Nat → Int64) (hO : OkC co) (gk : Rg k) (gw : Rg w) (k0 : 0 ≤ k ∧ k < co 0 0) (k1 : 0 ≤ w ∧ w < co 0 1) (nk : ¬ (0 < co 9 (k * 8 + w))) : MuW l yL_strength cL_strength 5 (some .int) [(0, 10, 13, 25), (0, 10, 17, 31)] 8 1 6 E [] [.ref x, .int (zI k), .int (zI w), .ref oa] (fun H => PR E x [(x, .inr (11, [.ref (x + 1), .ref (x + 29), .ref (x + 57), .ref (x + 85), .ref (x + 311), .ref (x + 314), .ref (x + 319), .ref (x + 332), .int (zI hs), .int (zI er), .int (zI fa), .int (zI ss)]))] H ∧ PR E (x + 1) (courtW E (x + 1) co) H ∧ PR E oa [(oa, .inl (E 102 4, 1, .inr (.inl lg)))] H) (fun rv H => rv = some (.int (zI 2))) := by
  refine MuW.start (own := RL) rfl (by decide +kernel) (Nat.le_of_ble_eq_true rfl) ?_
  intro p e s m below meth cd args Q hQ X hr hlk htab hM hPr
  obtain ⟨h_cm, h_co, h_out⟩ := hPr
  refine v_aload_n X dL_strength_0 1 rfl 3 rfl ?_
  refine v_iconst X dL_strength_1 2 rfl ?_
  refine v_aload_n X dL_strength_2 3 rfl 0 rfl ?_
  refine v_iload_n X dL_strength_3 4 rfl 1 rfl ?_
  refine v_iload_n X dL_strength_4 5 rfl 2 rfl ?_
  have hht : HT RL "java/util/NoSuchElementException" s [(0, 10, 13, 25), (0, 10, 17, 31)] 5 1 17 := ⟨(0, 10, 17, 31), rfl, rfl, by decide, by decide, xl_L_31, xc_NSE, by
    intro i z hi hz
    rcases (show i = 0 by omega) with rfl
    · cases hz; exact ⟨by decide, _, xl_L_25, hM.C.2.2.2.2.2.2.1 3 2 _ _ (by decide) rfl rfl⟩⟩
  refine v_txC X htab hM (h_cm.1) (x_X9_strength_2 l hl E x co hs er fa ss k w hO gk gw k0 k1 nk) kvX9_strength kiX9_strength kl_L_80 (q0 := 0) rfl rfl (As := [.int (zI k), .int (zI w)]) rfl rfl rfl dL_strength_5 1 17 hht (k' := 1) (n' := 6) rfl rfl (fun q hq => hq.elim) ⟨h_cm, h_co⟩ (fun q9 H1 lo1 hM hF hpo => ?_)
  replace h_cm := h_cm.kept hF 1 rfl (fun q _ _ h => h.elim)
  replace h_co := h_co.kept hF 28 rfl (fun q _ _ h => h.elim)
  replace h_out := h_out.kept hF 1 rfl (fun q _ _ h => h.elim)
  show V p l e (rmL 8 1 6) s m args below meth cd Q 5 H1 lo1 1 6 17 [(0, .ref x), (1, .int (zI k)), (2, .int (zI w)), (3, .ref oa)] [.ref q9]
  refine v_astore X dL_strength_17 19 rfl (by decide) (L' := [(4, .ref q9), (0, .ref x), (1, .int (zI k)), (2, .int (zI w)), (3, .ref oa)]) rfl ?_
  refine v_iconst X dL_strength_19 20 rfl ?_
  subst hQ; exact m_iret X hr hlk hM dL_strength_20 rfl rfl
set_option maxHeartbeats 4000000 in
set_option maxRecDepth 20000 in
theorem w_X9_questionCount (l : Launch) (hl : l.stackTraces = false) (E : Nat → Nat → Nat) (x : Nat) (co : Nat → Int → Int) (hs : Int) (er : Int) (fa : Int) (ss : Int) (k : Int) (w : Int) (oa : Nat) (lg : Nat → Int64) (hO : OkC co) (gk : Rg k) (gw : Rg w) (k0 : 0 ≤ k ∧ k < co 0 0) (k1 : 0 ≤ w ∧ w < co 0 1) (k2 : 0 < co 9 (k * 8 + w)) (hd_cm_out : x + 1 ≤ oa ∨ oa + 1 ≤ x) (hd_co_out : x + 1 + 28 ≤ oa ∨ oa + 1 ≤ x + 1) : MuW l yL_questionCount cL_questionCount 5 (some .int) [(0, 10, 13, 25), (0, 10, 17, 31)] 4 1 6 E [(oa, 1)] [.ref x, .int (zI k), .int (zI w), .ref oa] (fun H => PR E x [(x, .inr (11, [.ref (x + 1), .ref (x + 29), .ref (x + 57), .ref (x + 85), .ref (x + 311), .ref (x + 314), .ref (x + 319), .ref (x + 332), .int (zI hs), .int (zI er), .int (zI fa), .int (zI ss)]))] H ∧ PR E (x + 1) (courtW E (x + 1) co) H ∧ PR E oa [(oa, .inl (E 102 4, 1, .inr (.inl lg)))] H) (fun rv H => rv = some (.int (zI 0)) ∧ PR E oa [(oa, .inl (E 102 4, 1, .inr (.inl (fun _ => zL (co 10 (k * 8 + w))))))] H) := by
  refine MuW.start (own := RL) rfl (by decide +kernel) (Nat.le_of_ble_eq_true rfl) ?_
  intro p e s m below meth cd args Q hQ X hr hlk htab hM hPr
  obtain ⟨h_cm, h_co, h_out⟩ := hPr
  refine v_aload_n X dL_questionCount_0 1 rfl 3 rfl ?_
  refine v_iconst X dL_questionCount_1 2 rfl ?_
  refine v_aload_n X dL_questionCount_2 3 rfl 0 rfl ?_
  refine v_iload_n X dL_questionCount_3 4 rfl 1 rfl ?_
  refine v_iload_n X dL_questionCount_4 5 rfl 2 rfl ?_
  refine v_rdV X hM.C (PW.app h_cm.1 h_co.1) (c_X9_questionCount l E x co hs er fa ss k w hO gk gw k0 k1 k2) kvX9_questionCount kiX9_questionCount kl_L_83 rfl rfl (As := [.int (zI k), .int (zI w)]) rfl rfl rfl dL_questionCount_5 8 rfl ?_
  show V p l e (rmL 4 1 6) s m args below meth cd Q 5 s.heap [] 0 0 8 [(0, .ref x), (1, .int (zI k)), (2, .int (zI w)), (3, .ref oa)] [.int (zI (co 10 (k * 8 + w))), .int (zI 0), .ref oa]
  have hb_1 := hO.b10 (k * 8 + w)
  refine v_i2l X dL_questionCount_8 9 rfl ?_
  refine v_last X hM h_out 0 rfl (Or.inl (fsH (by omega) (by omega))) dL_questionCount_9 10 rfl (ws' := [(oa, .inl (E 102 4, 1, .inr (.inl (fun _ => zL (co 10 (k * 8 + w))))))]) rfl (fun H2 lo2 hzz hM hF h_out => ?_)
  clear hzz
  replace h_cm := h_cm.kept hF 1 rfl (fsd (by omega))
  replace h_co := h_co.kept hF 28 rfl (fsd (by omega))
  refine v_goto X dL_questionCount_10 21 (by decide) ?_
  refine v_iconst X dL_questionCount_21 22 rfl ?_
  subst hQ; exact m_iret X hr hlk hM dL_questionCount_22 rfl ⟨rfl, h_out⟩
set_option maxHeartbeats 4000000 in
set_option maxRecDepth 20000 in
theorem w_X9_questionCount_0_t (l : Launch) (hl : l.stackTraces = false) (E : Nat → Nat → Nat) (x : Nat) (co : Nat → Int → Int) (hs : Int) (er : Int) (fa : Int) (ss : Int) (k : Int) (w : Int) (oa : Nat) (lg : Nat → Int64) (hO : OkC co) (gk : Rg k) (gw : Rg w) (nk : ¬ (0 ≤ k ∧ k < co 0 0)) : MuW l yL_questionCount cL_questionCount 5 (some .int) [(0, 10, 13, 25), (0, 10, 17, 31)] 9 1 6 E [] [.ref x, .int (zI k), .int (zI w), .ref oa] (fun H => PR E x [(x, .inr (11, [.ref (x + 1), .ref (x + 29), .ref (x + 57), .ref (x + 85), .ref (x + 311), .ref (x + 314), .ref (x + 319), .ref (x + 332), .int (zI hs), .int (zI er), .int (zI fa), .int (zI ss)]))] H ∧ PR E (x + 1) (courtW E (x + 1) co) H ∧ PR E oa [(oa, .inl (E 102 4, 1, .inr (.inl lg)))] H) (fun rv H => rv = some (.int (zI 1))) := by
  refine MuW.start (own := RL) rfl (by decide +kernel) (Nat.le_of_ble_eq_true rfl) ?_
  intro p e s m below meth cd args Q hQ X hr hlk htab hM hPr
  obtain ⟨h_cm, h_co, h_out⟩ := hPr
  refine v_aload_n X dL_questionCount_0 1 rfl 3 rfl ?_
  refine v_iconst X dL_questionCount_1 2 rfl ?_
  refine v_aload_n X dL_questionCount_2 3 rfl 0 rfl ?_
  refine v_iload_n X dL_questionCount_3 4 rfl 1 rfl ?_
  refine v_iload_n X dL_questionCount_4 5 rfl 2 rfl ?_
  have hht : HT RL "java/lang/IndexOutOfBoundsException" s [(0, 10, 13, 25), (0, 10, 17, 31)] 5 0 13 := ⟨(0, 10, 13, 25), rfl, rfl, by decide, by decide, xl_L_25, xc_IOB, by
    intro i z hi hz
    omega⟩
  refine v_txC X htab hM (h_cm.1) (x_X9_questionCount_0 l hl E x co hs er fa ss k w hO gk gw nk) kvX9_questionCount kiX9_questionCount kl_L_83 (q0 := 0) rfl rfl (As := [.int (zI k), .int (zI w)]) rfl rfl rfl dL_questionCount_5 0 13 hht (k' := 1) (n' := 6) rfl rfl (fun q hq => hq.elim) ⟨h_cm, h_co⟩ (fun q9 H1 lo1 hM hF hpo => ?_)
  replace h_cm := h_cm.kept hF 1 rfl (fun q _ _ h => h.elim)
  replace h_co := h_co.kept hF 28 rfl (fun q _ _ h => h.elim)
  replace h_out := h_out.kept hF 1 rfl (fun q _ _ h => h.elim)
  show V p l e (rmL 9 1 6) s m args below meth cd Q 5 H1 lo1 1 6 13 [(0, .ref x), (1, .int (zI k)), (2, .int (zI w)), (3, .ref oa)] [.ref q9]
  refine v_astore X dL_questionCount_13 15 rfl (by decide) (L' := [(4, .ref q9), (0, .ref x), (1, .int (zI k)), (2, .int (zI w)), (3, .ref oa)]) rfl ?_
  refine v_iconst X dL_questionCount_15 16 rfl ?_
  subst hQ; exact m_iret X hr hlk hM dL_questionCount_16 rfl rfl
set_option maxHeartbeats 4000000 in
set_option maxRecDepth 20000 in
theorem w_X9_questionCount_1_t (l : Launch) (hl : l.stackTraces = false) (E : Nat → Nat → Nat) (x : Nat) (co : Nat → Int → Int) (hs : Int) (er : Int) (fa : Int) (ss : Int) (k : Int) (w : Int) (oa : Nat) (lg : Nat → Int64) (hO : OkC co) (gk : Rg k) (gw : Rg w) (k0 : 0 ≤ k ∧ k < co 0 0) (nk : ¬ (0 ≤ w ∧ w < co 0 1)) : MuW l yL_questionCount cL_questionCount 5 (some .int) [(0, 10, 13, 25), (0, 10, 17, 31)] 9 1 6 E [] [.ref x, .int (zI k), .int (zI w), .ref oa] (fun H => PR E x [(x, .inr (11, [.ref (x + 1), .ref (x + 29), .ref (x + 57), .ref (x + 85), .ref (x + 311), .ref (x + 314), .ref (x + 319), .ref (x + 332), .int (zI hs), .int (zI er), .int (zI fa), .int (zI ss)]))] H ∧ PR E (x + 1) (courtW E (x + 1) co) H ∧ PR E oa [(oa, .inl (E 102 4, 1, .inr (.inl lg)))] H) (fun rv H => rv = some (.int (zI 1))) := by
  refine MuW.start (own := RL) rfl (by decide +kernel) (Nat.le_of_ble_eq_true rfl) ?_
  intro p e s m below meth cd args Q hQ X hr hlk htab hM hPr
  obtain ⟨h_cm, h_co, h_out⟩ := hPr
  refine v_aload_n X dL_questionCount_0 1 rfl 3 rfl ?_
  refine v_iconst X dL_questionCount_1 2 rfl ?_
  refine v_aload_n X dL_questionCount_2 3 rfl 0 rfl ?_
  refine v_iload_n X dL_questionCount_3 4 rfl 1 rfl ?_
  refine v_iload_n X dL_questionCount_4 5 rfl 2 rfl ?_
  have hht : HT RL "java/lang/IndexOutOfBoundsException" s [(0, 10, 13, 25), (0, 10, 17, 31)] 5 0 13 := ⟨(0, 10, 13, 25), rfl, rfl, by decide, by decide, xl_L_25, xc_IOB, by
    intro i z hi hz
    omega⟩
  refine v_txC X htab hM (h_cm.1) (x_X9_questionCount_1 l hl E x co hs er fa ss k w hO gk gw k0 nk) kvX9_questionCount kiX9_questionCount kl_L_83 (q0 := 0) rfl rfl (As := [.int (zI k), .int (zI w)]) rfl rfl rfl dL_questionCount_5 0 13 hht (k' := 1) (n' := 6) rfl rfl (fun q hq => hq.elim) ⟨h_cm, h_co⟩ (fun q9 H1 lo1 hM hF hpo => ?_)
  replace h_cm := h_cm.kept hF 1 rfl (fun q _ _ h => h.elim)
  replace h_co := h_co.kept hF 28 rfl (fun q _ _ h => h.elim)
  replace h_out := h_out.kept hF 1 rfl (fun q _ _ h => h.elim)
  show V p l e (rmL 9 1 6) s m args below meth cd Q 5 H1 lo1 1 6 13 [(0, .ref x), (1, .int (zI k)), (2, .int (zI w)), (3, .ref oa)] [.ref q9]
  refine v_astore X dL_questionCount_13 15 rfl (by decide) (L' := [(4, .ref q9), (0, .ref x), (1, .int (zI k)), (2, .int (zI w)), (3, .ref oa)]) rfl ?_
  refine v_iconst X dL_questionCount_15 16 rfl ?_
  subst hQ; exact m_iret X hr hlk hM dL_questionCount_16 rfl rfl
set_option maxHeartbeats 4000000 in
set_option maxRecDepth 20000 in
theorem w_X9_questionCount_2_t (l : Launch) (hl : l.stackTraces = false) (E : Nat → Nat → Nat) (x : Nat) (co : Nat → Int → Int) (hs : Int) (er : Int) (fa : Int) (ss : Int) (k : Int) (w : Int) (oa : Nat) (lg : Nat → Int64) (hO : OkC co) (gk : Rg k) (gw : Rg w) (k0 : 0 ≤ k ∧ k < co 0 0) (k1 : 0 ≤ w ∧ w < co 0 1) (nk : ¬ (0 < co 9 (k * 8 + w))) : MuW l yL_questionCount cL_questionCount 5 (some .int) [(0, 10, 13, 25), (0, 10, 17, 31)] 8 1 6 E [] [.ref x, .int (zI k), .int (zI w), .ref oa] (fun H => PR E x [(x, .inr (11, [.ref (x + 1), .ref (x + 29), .ref (x + 57), .ref (x + 85), .ref (x + 311), .ref (x + 314), .ref (x + 319), .ref (x + 332), .int (zI hs), .int (zI er), .int (zI fa), .int (zI ss)]))] H ∧ PR E (x + 1) (courtW E (x + 1) co) H ∧ PR E oa [(oa, .inl (E 102 4, 1, .inr (.inl lg)))] H) (fun rv H => rv = some (.int (zI 2))) := by
  refine MuW.start (own := RL) rfl (by decide +kernel) (Nat.le_of_ble_eq_true rfl) ?_
  intro p e s m below meth cd args Q hQ X hr hlk htab hM hPr
  obtain ⟨h_cm, h_co, h_out⟩ := hPr
  refine v_aload_n X dL_questionCount_0 1 rfl 3 rfl ?_
  refine v_iconst X dL_questionCount_1 2 rfl ?_
  refine v_aload_n X dL_questionCount_2 3 rfl 0 rfl ?_
  refine v_iload_n X dL_questionCount_3 4 rfl 1 rfl ?_
  refine v_iload_n X dL_questionCount_4 5 rfl 2 rfl ?_
  have hht : HT RL "java/util/NoSuchElementException" s [(0, 10, 13, 25), (0, 10, 17, 31)] 5 1 17 := ⟨(0, 10, 17, 31), rfl, rfl, by decide, by decide, xl_L_31, xc_NSE, by
    intro i z hi hz
    rcases (show i = 0 by omega) with rfl
    · cases hz; exact ⟨by decide, _, xl_L_25, hM.C.2.2.2.2.2.2.1 3 2 _ _ (by decide) rfl rfl⟩⟩
  refine v_txC X htab hM (h_cm.1) (x_X9_questionCount_2 l hl E x co hs er fa ss k w hO gk gw k0 k1 nk) kvX9_questionCount kiX9_questionCount kl_L_83 (q0 := 0) rfl rfl (As := [.int (zI k), .int (zI w)]) rfl rfl rfl dL_questionCount_5 1 17 hht (k' := 1) (n' := 6) rfl rfl (fun q hq => hq.elim) ⟨h_cm, h_co⟩ (fun q9 H1 lo1 hM hF hpo => ?_)
  replace h_cm := h_cm.kept hF 1 rfl (fun q _ _ h => h.elim)
  replace h_co := h_co.kept hF 28 rfl (fun q _ _ h => h.elim)
  replace h_out := h_out.kept hF 1 rfl (fun q _ _ h => h.elim)
  show V p l e (rmL 8 1 6) s m args below meth cd Q 5 H1 lo1 1 6 17 [(0, .ref x), (1, .int (zI k)), (2, .int (zI w)), (3, .ref oa)] [.ref q9]
  refine v_astore X dL_questionCount_17 19 rfl (by decide) (L' := [(4, .ref q9), (0, .ref x), (1, .int (zI k)), (2, .int (zI w)), (3, .ref oa)]) rfl ?_
  refine v_iconst X dL_questionCount_19 20 rfl ?_
  subst hQ; exact m_iret X hr hlk hM dL_questionCount_20 rfl rfl
set_option maxHeartbeats 4000000 in
set_option maxRecDepth 20000 in
theorem w_X9_credibility (l : Launch) (hl : l.stackTraces = false) (E : Nat → Nat → Nat) (x : Nat) (co : Nat → Int → Int) (hs : Int) (er : Int) (fa : Int) (ss : Int) (w : Int) (oa : Nat) (lg : Nat → Int64) (hO : OkC co) (gw : Rg w) (k0 : 0 ≤ w ∧ w < co 0 1) (hd_cm_out : x + 1 ≤ oa ∨ oa + 1 ≤ x) (hd_co_out : x + 1 + 28 ≤ oa ∨ oa + 1 ≤ x + 1) : MuW l yL_credibility cL_credibility 4 (some .int) [(0, 9, 12, 25)] 3 1 6 E [(oa, 1)] [.ref x, .int (zI w), .ref oa] (fun H => PR E x [(x, .inr (11, [.ref (x + 1), .ref (x + 29), .ref (x + 57), .ref (x + 85), .ref (x + 311), .ref (x + 314), .ref (x + 319), .ref (x + 332), .int (zI hs), .int (zI er), .int (zI fa), .int (zI ss)]))] H ∧ PR E (x + 1) (courtW E (x + 1) co) H ∧ PR E oa [(oa, .inl (E 102 4, 1, .inr (.inl lg)))] H) (fun rv H => rv = some (.int (zI 0)) ∧ PR E oa [(oa, .inl (E 102 4, 1, .inr (.inl (fun _ => zL (co 11 w)))))] H) := by
  refine MuW.start (own := RL) rfl (by decide +kernel) (Nat.le_of_ble_eq_true rfl) ?_
  intro p e s m below meth cd args Q hQ X hr hlk htab hM hPr
  obtain ⟨h_cm, h_co, h_out⟩ := hPr
  refine v_aload_n X dL_credibility_0 1 rfl 2 rfl ?_
  refine v_iconst X dL_credibility_1 2 rfl ?_
  refine v_aload_n X dL_credibility_2 3 rfl 0 rfl ?_
  refine v_iload_n X dL_credibility_3 4 rfl 1 rfl ?_
  refine v_rdV X hM.C (PW.app h_cm.1 h_co.1) (c_X9_credibility l E x co hs er fa ss w hO gw k0) kvX9_credibility kiX9_credibility kl_L_86 rfl rfl (As := [.int (zI w)]) rfl rfl rfl dL_credibility_4 7 rfl ?_
  show V p l e (rmL 3 1 6) s m args below meth cd Q 4 s.heap [] 0 0 7 [(0, .ref x), (1, .int (zI w)), (2, .ref oa)] [.int (zI (co 11 w)), .int (zI 0), .ref oa]
  have hb_1 := hO.b11 w
  refine v_i2l X dL_credibility_7 8 rfl ?_
  refine v_last X hM h_out 0 rfl (Or.inl (fsH (by omega) (by omega))) dL_credibility_8 9 rfl (ws' := [(oa, .inl (E 102 4, 1, .inr (.inl (fun _ => zL (co 11 w)))))]) rfl (fun H2 lo2 hzz hM hF h_out => ?_)
  clear hzz
  replace h_cm := h_cm.kept hF 1 rfl (fsd (by omega))
  replace h_co := h_co.kept hF 28 rfl (fsd (by omega))
  refine v_goto X dL_credibility_9 15 (by decide) ?_
  refine v_iconst X dL_credibility_15 16 rfl ?_
  subst hQ; exact m_iret X hr hlk hM dL_credibility_16 rfl ⟨rfl, h_out⟩
set_option maxHeartbeats 4000000 in
set_option maxRecDepth 20000 in
theorem w_X9_credibility_0_t (l : Launch) (hl : l.stackTraces = false) (E : Nat → Nat → Nat) (x : Nat) (co : Nat → Int → Int) (hs : Int) (er : Int) (fa : Int) (ss : Int) (w : Int) (oa : Nat) (lg : Nat → Int64) (hO : OkC co) (gw : Rg w) (nk : ¬ (0 ≤ w ∧ w < co 0 1)) : MuW l yL_credibility cL_credibility 4 (some .int) [(0, 9, 12, 25)] 8 1 6 E [] [.ref x, .int (zI w), .ref oa] (fun H => PR E x [(x, .inr (11, [.ref (x + 1), .ref (x + 29), .ref (x + 57), .ref (x + 85), .ref (x + 311), .ref (x + 314), .ref (x + 319), .ref (x + 332), .int (zI hs), .int (zI er), .int (zI fa), .int (zI ss)]))] H ∧ PR E (x + 1) (courtW E (x + 1) co) H ∧ PR E oa [(oa, .inl (E 102 4, 1, .inr (.inl lg)))] H) (fun rv H => rv = some (.int (zI 1))) := by
  refine MuW.start (own := RL) rfl (by decide +kernel) (Nat.le_of_ble_eq_true rfl) ?_
  intro p e s m below meth cd args Q hQ X hr hlk htab hM hPr
  obtain ⟨h_cm, h_co, h_out⟩ := hPr
  refine v_aload_n X dL_credibility_0 1 rfl 2 rfl ?_
  refine v_iconst X dL_credibility_1 2 rfl ?_
  refine v_aload_n X dL_credibility_2 3 rfl 0 rfl ?_
  refine v_iload_n X dL_credibility_3 4 rfl 1 rfl ?_
  have hht : HT RL "java/lang/IndexOutOfBoundsException" s [(0, 9, 12, 25)] 4 0 12 := ⟨(0, 9, 12, 25), rfl, rfl, by decide, by decide, xl_L_25, xc_IOB, by
    intro i z hi hz
    omega⟩
  refine v_txC X htab hM (h_cm.1) (x_X9_credibility_0 l hl E x co hs er fa ss w hO gw nk) kvX9_credibility kiX9_credibility kl_L_86 (q0 := 0) rfl rfl (As := [.int (zI w)]) rfl rfl rfl dL_credibility_4 0 12 hht (k' := 1) (n' := 6) rfl rfl (fun q hq => hq.elim) ⟨h_cm, h_co⟩ (fun q9 H1 lo1 hM hF hpo => ?_)
  replace h_cm := h_cm.kept hF 1 rfl (fun q _ _ h => h.elim)
  replace h_co := h_co.kept hF 28 rfl (fun q _ _ h => h.elim)
  replace h_out := h_out.kept hF 1 rfl (fun q _ _ h => h.elim)
  show V p l e (rmL 8 1 6) s m args below meth cd Q 4 H1 lo1 1 6 12 [(0, .ref x), (1, .int (zI w)), (2, .ref oa)] [.ref q9]
  refine v_astore_n X dL_credibility_12 13 rfl rfl (by decide) (L' := [(3, .ref q9), (0, .ref x), (1, .int (zI w)), (2, .ref oa)]) rfl ?_
  refine v_iconst X dL_credibility_13 14 rfl ?_
  subst hQ; exact m_iret X hr hlk hM dL_credibility_14 rfl rfl
set_option maxHeartbeats 4000000 in
set_option maxRecDepth 20000 in
theorem w_X9_casesOfWitness (l : Launch) (hl : l.stackTraces = false) (E : Nat → Nat → Nat) (x : Nat) (co : Nat → Int → Int) (hs : Int) (er : Int) (fa : Int) (ss : Int) (w : Int) (oa : Nat) (lg : Nat → Int64) (hO : OkC co) (gw : Rg w) (k0 : 0 ≤ w ∧ w < co 0 1) (hd_cm_out : x + 1 ≤ oa ∨ oa + 1 ≤ x) (hd_co_out : x + 1 + 28 ≤ oa ∨ oa + 1 ≤ x + 1) : MuW l yL_casesOfWitness cL_casesOfWitness 4 (some .int) [(0, 9, 12, 25)] 4 1 6 E [(oa, 1)] [.ref x, .int (zI w), .ref oa] (fun H => PR E x [(x, .inr (11, [.ref (x + 1), .ref (x + 29), .ref (x + 57), .ref (x + 85), .ref (x + 311), .ref (x + 314), .ref (x + 319), .ref (x + 332), .int (zI hs), .int (zI er), .int (zI fa), .int (zI ss)]))] H ∧ PR E (x + 1) (courtW E (x + 1) co) H ∧ PR E oa [(oa, .inl (E 102 4, 1, .inr (.inl lg)))] H) (fun rv H => rv = some (.int (zI 0)) ∧ PR E oa [(oa, .inl (E 102 4, 1, .inr (.inl (fun _ => zL (chC co w)))))] H) := by
  refine MuW.start (own := RL) rfl (by decide +kernel) (Nat.le_of_ble_eq_true rfl) ?_
  intro p e s m below meth cd args Q hQ X hr hlk htab hM hPr
  obtain ⟨h_cm, h_co, h_out⟩ := hPr
  refine v_aload_n X dL_casesOfWitness_0 1 rfl 2 rfl ?_
  refine v_iconst X dL_casesOfWitness_1 2 rfl ?_
  refine v_aload_n X dL_casesOfWitness_2 3 rfl 0 rfl ?_
  refine v_iload_n X dL_casesOfWitness_3 4 rfl 1 rfl ?_
  refine v_rdV X hM.C (PW.app h_cm.1 h_co.1) (c_X9_casesOfWitness l E x co hs er fa ss w hO gw k0) kvX9_casesOfWitness kiX9_casesOfWitness kl_L_89 rfl rfl (As := [.int (zI w)]) rfl rfl rfl dL_casesOfWitness_4 7 rfl ?_
  show V p l e (rmL 4 1 6) s m args below meth cd Q 4 s.heap [] 0 0 7 [(0, .ref x), (1, .int (zI w)), (2, .ref oa)] [.int (zI (chC co w)), .int (zI 0), .ref oa]
  refine v_i2l X dL_casesOfWitness_7 8 rfl ?_
  refine v_last X hM h_out 0 rfl (Or.inl (fsH (by omega) (by omega))) dL_casesOfWitness_8 9 rfl (ws' := [(oa, .inl (E 102 4, 1, .inr (.inl (fun _ => zL (chC co w)))))]) rfl (fun H1 lo1 hzz hM hF h_out => ?_)
  clear hzz
  replace h_cm := h_cm.kept hF 1 rfl (fsd (by omega))
  replace h_co := h_co.kept hF 28 rfl (fsd (by omega))
  refine v_goto X dL_casesOfWitness_9 15 (by decide) ?_
  refine v_iconst X dL_casesOfWitness_15 16 rfl ?_
  subst hQ; exact m_iret X hr hlk hM dL_casesOfWitness_16 rfl ⟨rfl, h_out⟩
set_option maxHeartbeats 4000000 in
set_option maxRecDepth 20000 in
theorem w_X9_casesOfWitness_0_t (l : Launch) (hl : l.stackTraces = false) (E : Nat → Nat → Nat) (x : Nat) (co : Nat → Int → Int) (hs : Int) (er : Int) (fa : Int) (ss : Int) (w : Int) (oa : Nat) (lg : Nat → Int64) (hO : OkC co) (gw : Rg w) (nk : ¬ (0 ≤ w ∧ w < co 0 1)) : MuW l yL_casesOfWitness cL_casesOfWitness 4 (some .int) [(0, 9, 12, 25)] 8 1 6 E [] [.ref x, .int (zI w), .ref oa] (fun H => PR E x [(x, .inr (11, [.ref (x + 1), .ref (x + 29), .ref (x + 57), .ref (x + 85), .ref (x + 311), .ref (x + 314), .ref (x + 319), .ref (x + 332), .int (zI hs), .int (zI er), .int (zI fa), .int (zI ss)]))] H ∧ PR E (x + 1) (courtW E (x + 1) co) H ∧ PR E oa [(oa, .inl (E 102 4, 1, .inr (.inl lg)))] H) (fun rv H => rv = some (.int (zI 1))) := by
  refine MuW.start (own := RL) rfl (by decide +kernel) (Nat.le_of_ble_eq_true rfl) ?_
  intro p e s m below meth cd args Q hQ X hr hlk htab hM hPr
  obtain ⟨h_cm, h_co, h_out⟩ := hPr
  refine v_aload_n X dL_casesOfWitness_0 1 rfl 2 rfl ?_
  refine v_iconst X dL_casesOfWitness_1 2 rfl ?_
  refine v_aload_n X dL_casesOfWitness_2 3 rfl 0 rfl ?_
  refine v_iload_n X dL_casesOfWitness_3 4 rfl 1 rfl ?_
  have hht : HT RL "java/lang/IndexOutOfBoundsException" s [(0, 9, 12, 25)] 4 0 12 := ⟨(0, 9, 12, 25), rfl, rfl, by decide, by decide, xl_L_25, xc_IOB, by
    intro i z hi hz
    omega⟩
  refine v_txC X htab hM (h_cm.1) (x_X9_casesOfWitness_0 l hl E x co hs er fa ss w hO gw nk) kvX9_casesOfWitness kiX9_casesOfWitness kl_L_89 (q0 := 0) rfl rfl (As := [.int (zI w)]) rfl rfl rfl dL_casesOfWitness_4 0 12 hht (k' := 1) (n' := 6) rfl rfl (fun q hq => hq.elim) ⟨h_cm, h_co⟩ (fun q9 H1 lo1 hM hF hpo => ?_)
  replace h_cm := h_cm.kept hF 1 rfl (fun q _ _ h => h.elim)
  replace h_co := h_co.kept hF 28 rfl (fun q _ _ h => h.elim)
  replace h_out := h_out.kept hF 1 rfl (fun q _ _ h => h.elim)
  show V p l e (rmL 8 1 6) s m args below meth cd Q 4 H1 lo1 1 6 12 [(0, .ref x), (1, .int (zI w)), (2, .ref oa)] [.ref q9]
  refine v_astore_n X dL_casesOfWitness_12 13 rfl rfl (by decide) (L' := [(3, .ref q9), (0, .ref x), (1, .int (zI w)), (2, .ref oa)]) rfl ?_
  refine v_iconst X dL_casesOfWitness_13 14 rfl ?_
  subst hQ; exact m_iret X hr hlk hM dL_casesOfWitness_14 rfl rfl
set_option maxHeartbeats 4000000 in
set_option maxRecDepth 20000 in
theorem w_X9_mostCredible (l : Launch) (hl : l.stackTraces = false) (E : Nat → Nat → Nat) (x : Nat) (co : Nat → Int → Int) (hs : Int) (er : Int) (fa : Int) (ss : Int) (r : Int) (oa : Nat) (lg : Nat → Int64) (hO : OkC co) (gr : Rg r) (k0 : 0 ≤ firstZ (fun j => rkC co j = r) (co 0 1).toNat) (hd_cm_out : x + 1 ≤ oa ∨ oa + 1 ≤ x) (hd_co_out : x + 1 + 28 ≤ oa ∨ oa + 1 ≤ x + 1) : MuW l yL_mostCredible cL_mostCredible 4 (some .int) [(0, 9, 12, 31)] 7 1 6 E [(oa, 1)] [.ref x, .int (zI r), .ref oa] (fun H => PR E x [(x, .inr (11, [.ref (x + 1), .ref (x + 29), .ref (x + 57), .ref (x + 85), .ref (x + 311), .ref (x + 314), .ref (x + 319), .ref (x + 332), .int (zI hs), .int (zI er), .int (zI fa), .int (zI ss)]))] H ∧ PR E (x + 1) (courtW E (x + 1) co) H ∧ PR E oa [(oa, .inl (E 102 4, 1, .inr (.inl lg)))] H) (fun rv H => rv = some (.int (zI 0)) ∧ PR E oa [(oa, .inl (E 102 4, 1, .inr (.inl (fun _ => zL (firstZ (fun j => rkC co j = r) (co 0 1).toNat)))))] H) := by
  refine MuW.start (own := RL) rfl (by decide +kernel) (Nat.le_of_ble_eq_true rfl) ?_
  intro p e s m below meth cd args Q hQ X hr hlk htab hM hPr
  obtain ⟨h_cm, h_co, h_out⟩ := hPr
  refine v_aload_n X dL_mostCredible_0 1 rfl 2 rfl ?_
  refine v_iconst X dL_mostCredible_1 2 rfl ?_
  refine v_aload_n X dL_mostCredible_2 3 rfl 0 rfl ?_
  refine v_iload_n X dL_mostCredible_3 4 rfl 1 rfl ?_
  refine v_rdV X hM.C (PW.app h_cm.1 h_co.1) (c_X9_mostCredible l E x co hs er fa ss r hO gr k0) kvX9_mostCredible kiX9_mostCredible kl_L_92 rfl rfl (As := [.int (zI r)]) rfl rfl rfl dL_mostCredible_4 7 rfl ?_
  show V p l e (rmL 7 1 6) s m args below meth cd Q 4 s.heap [] 0 0 7 [(0, .ref x), (1, .int (zI r)), (2, .ref oa)] [.int (zI (firstZ (fun j => rkC co j = r) (co 0 1).toNat)), .int (zI 0), .ref oa]
  have hb_1 := hO.bw
  refine v_i2l X dL_mostCredible_7 8 rfl ?_
  refine v_last X hM h_out 0 rfl (Or.inl (fsH (by omega) (by omega))) dL_mostCredible_8 9 rfl (ws' := [(oa, .inl (E 102 4, 1, .inr (.inl (fun _ => zL (firstZ (fun j => rkC co j = r) (co 0 1).toNat)))))]) rfl (fun H2 lo2 hzz hM hF h_out => ?_)
  clear hzz
  replace h_cm := h_cm.kept hF 1 rfl (fsd (by omega))
  replace h_co := h_co.kept hF 28 rfl (fsd (by omega))
  refine v_goto X dL_mostCredible_9 15 (by decide) ?_
  refine v_iconst X dL_mostCredible_15 16 rfl ?_
  subst hQ; exact m_iret X hr hlk hM dL_mostCredible_16 rfl ⟨rfl, h_out⟩
set_option maxHeartbeats 4000000 in
set_option maxRecDepth 20000 in
theorem w_X9_mostCredible_0_t (l : Launch) (hl : l.stackTraces = false) (E : Nat → Nat → Nat) (x : Nat) (co : Nat → Int → Int) (hs : Int) (er : Int) (fa : Int) (ss : Int) (r : Int) (oa : Nat) (lg : Nat → Int64) (hO : OkC co) (gr : Rg r) (nk : ¬ (0 ≤ firstZ (fun j => rkC co j = r) (co 0 1).toNat)) : MuW l yL_mostCredible cL_mostCredible 4 (some .int) [(0, 9, 12, 31)] 7 1 6 E [] [.ref x, .int (zI r), .ref oa] (fun H => PR E x [(x, .inr (11, [.ref (x + 1), .ref (x + 29), .ref (x + 57), .ref (x + 85), .ref (x + 311), .ref (x + 314), .ref (x + 319), .ref (x + 332), .int (zI hs), .int (zI er), .int (zI fa), .int (zI ss)]))] H ∧ PR E (x + 1) (courtW E (x + 1) co) H ∧ PR E oa [(oa, .inl (E 102 4, 1, .inr (.inl lg)))] H) (fun rv H => rv = some (.int (zI 1))) := by
  refine MuW.start (own := RL) rfl (by decide +kernel) (Nat.le_of_ble_eq_true rfl) ?_
  intro p e s m below meth cd args Q hQ X hr hlk htab hM hPr
  obtain ⟨h_cm, h_co, h_out⟩ := hPr
  refine v_aload_n X dL_mostCredible_0 1 rfl 2 rfl ?_
  refine v_iconst X dL_mostCredible_1 2 rfl ?_
  refine v_aload_n X dL_mostCredible_2 3 rfl 0 rfl ?_
  refine v_iload_n X dL_mostCredible_3 4 rfl 1 rfl ?_
  have hht : HT RL "java/util/NoSuchElementException" s [(0, 9, 12, 31)] 4 0 12 := ⟨(0, 9, 12, 31), rfl, rfl, by decide, by decide, xl_L_31, xc_NSE, by
    intro i z hi hz
    omega⟩
  refine v_txC X htab hM (h_cm.1) (x_X9_mostCredible_0 l hl E x co hs er fa ss r hO gr nk) kvX9_mostCredible kiX9_mostCredible kl_L_92 (q0 := 0) rfl rfl (As := [.int (zI r)]) rfl rfl rfl dL_mostCredible_4 0 12 hht (k' := 1) (n' := 6) rfl rfl (fun q hq => hq.elim) ⟨h_cm, h_co⟩ (fun q9 H1 lo1 hM hF hpo => ?_)
  replace h_cm := h_cm.kept hF 1 rfl (fun q _ _ h => h.elim)
  replace h_co := h_co.kept hF 28 rfl (fun q _ _ h => h.elim)
  replace h_out := h_out.kept hF 1 rfl (fun q _ _ h => h.elim)
  show V p l e (rmL 7 1 6) s m args below meth cd Q 4 H1 lo1 1 6 12 [(0, .ref x), (1, .int (zI r)), (2, .ref oa)] [.ref q9]
  refine v_astore_n X dL_mostCredible_12 13 rfl rfl (by decide) (L' := [(3, .ref q9), (0, .ref x), (1, .int (zI r)), (2, .ref oa)]) rfl ?_
  refine v_iconst X dL_mostCredible_13 14 rfl ?_
  subst hQ; exact m_iret X hr hlk hM dL_mostCredible_14 rfl rfl
set_option maxHeartbeats 4000000 in
set_option maxRecDepth 20000 in
theorem w_X9_agreement (l : Launch) (hl : l.stackTraces = false) (E : Nat → Nat → Nat) (x : Nat) (co : Nat → Int → Int) (hs : Int) (er : Int) (fa : Int) (ss : Int) (w : Int) (y : Int) (oa : Nat) (lg : Nat → Int64) (hO : OkC co) (gw : Rg w) (gy : Rg y) (k0 : 0 ≤ w ∧ w < co 0 1) (k1 : 0 ≤ y ∧ y < co 0 1) (hd_cm_out : x + 1 ≤ oa ∨ oa + 1 ≤ x) (hd_co_out : x + 1 + 28 ≤ oa ∨ oa + 1 ≤ x + 1) : MuW l yL_agreement cL_agreement 5 (some .int) [(0, 10, 13, 25)] 4 1 6 E [(oa, 1)] [.ref x, .int (zI w), .int (zI y), .ref oa] (fun H => PR E x [(x, .inr (11, [.ref (x + 1), .ref (x + 29), .ref (x + 57), .ref (x + 85), .ref (x + 311), .ref (x + 314), .ref (x + 319), .ref (x + 332), .int (zI hs), .int (zI er), .int (zI fa), .int (zI ss)]))] H ∧ PR E (x + 1) (courtW E (x + 1) co) H ∧ PR E oa [(oa, .inl (E 102 4, 1, .inr (.inl lg)))] H) (fun rv H => rv = some (.int (zI 0)) ∧ PR E oa [(oa, .inl (E 102 4, 1, .inr (.inl (fun _ => zL (sumZ (fun j => co 8 (j * 8 + w) * co 8 (j * 8 + y)) (co 0 0).toNat)))))] H) := by
  refine MuW.start (own := RL) rfl (by decide +kernel) (Nat.le_of_ble_eq_true rfl) ?_
  intro p e s m below meth cd args Q hQ X hr hlk htab hM hPr
  obtain ⟨h_cm, h_co, h_out⟩ := hPr
  refine v_aload_n X dL_agreement_0 1 rfl 3 rfl ?_
  refine v_iconst X dL_agreement_1 2 rfl ?_
  refine v_aload_n X dL_agreement_2 3 rfl 0 rfl ?_
  refine v_iload_n X dL_agreement_3 4 rfl 1 rfl ?_
  refine v_iload_n X dL_agreement_4 5 rfl 2 rfl ?_
  refine v_rdV X hM.C (PW.app h_cm.1 h_co.1) (c_X9_agreement l E x co hs er fa ss w y hO gw gy k0 k1) kvX9_agreement kiX9_agreement kl_L_95 rfl rfl (As := [.int (zI w), .int (zI y)]) rfl rfl rfl dL_agreement_5 8 rfl ?_
  show V p l e (rmL 4 1 6) s m args below meth cd Q 5 s.heap [] 0 0 8 [(0, .ref x), (1, .int (zI w)), (2, .int (zI y)), (3, .ref oa)] [.int (zI (sumZ (fun j => co 8 (j * 8 + w) * co 8 (j * 8 + y)) (co 0 0).toNat)), .int (zI 0), .ref oa]
  have hb_1 := hO.b0
  refine v_i2l X dL_agreement_8 9 rfl ?_
  refine v_last X hM h_out 0 rfl (Or.inl (fsH (by omega) (by omega))) dL_agreement_9 10 rfl (ws' := [(oa, .inl (E 102 4, 1, .inr (.inl (fun _ => zL (sumZ (fun j => co 8 (j * 8 + w) * co 8 (j * 8 + y)) (co 0 0).toNat)))))]) rfl (fun H2 lo2 hzz hM hF h_out => ?_)
  clear hzz
  replace h_cm := h_cm.kept hF 1 rfl (fsd (by omega))
  replace h_co := h_co.kept hF 28 rfl (fsd (by omega))
  refine v_goto X dL_agreement_10 17 (by decide) ?_
  refine v_iconst X dL_agreement_17 18 rfl ?_
  subst hQ; exact m_iret X hr hlk hM dL_agreement_18 rfl ⟨rfl, h_out⟩
set_option maxHeartbeats 4000000 in
set_option maxRecDepth 20000 in
theorem w_X9_agreement_0_t (l : Launch) (hl : l.stackTraces = false) (E : Nat → Nat → Nat) (x : Nat) (co : Nat → Int → Int) (hs : Int) (er : Int) (fa : Int) (ss : Int) (w : Int) (y : Int) (oa : Nat) (lg : Nat → Int64) (hO : OkC co) (gw : Rg w) (gy : Rg y) (nk : ¬ (0 ≤ w ∧ w < co 0 1)) : MuW l yL_agreement cL_agreement 5 (some .int) [(0, 10, 13, 25)] 8 1 6 E [] [.ref x, .int (zI w), .int (zI y), .ref oa] (fun H => PR E x [(x, .inr (11, [.ref (x + 1), .ref (x + 29), .ref (x + 57), .ref (x + 85), .ref (x + 311), .ref (x + 314), .ref (x + 319), .ref (x + 332), .int (zI hs), .int (zI er), .int (zI fa), .int (zI ss)]))] H ∧ PR E (x + 1) (courtW E (x + 1) co) H ∧ PR E oa [(oa, .inl (E 102 4, 1, .inr (.inl lg)))] H) (fun rv H => rv = some (.int (zI 1))) := by
  refine MuW.start (own := RL) rfl (by decide +kernel) (Nat.le_of_ble_eq_true rfl) ?_
  intro p e s m below meth cd args Q hQ X hr hlk htab hM hPr
  obtain ⟨h_cm, h_co, h_out⟩ := hPr
  refine v_aload_n X dL_agreement_0 1 rfl 3 rfl ?_
  refine v_iconst X dL_agreement_1 2 rfl ?_
  refine v_aload_n X dL_agreement_2 3 rfl 0 rfl ?_
  refine v_iload_n X dL_agreement_3 4 rfl 1 rfl ?_
  refine v_iload_n X dL_agreement_4 5 rfl 2 rfl ?_
  have hht : HT RL "java/lang/IndexOutOfBoundsException" s [(0, 10, 13, 25)] 5 0 13 := ⟨(0, 10, 13, 25), rfl, rfl, by decide, by decide, xl_L_25, xc_IOB, by
    intro i z hi hz
    omega⟩
  refine v_txC X htab hM (h_cm.1) (x_X9_agreement_0 l hl E x co hs er fa ss w y hO gw gy nk) kvX9_agreement kiX9_agreement kl_L_95 (q0 := 0) rfl rfl (As := [.int (zI w), .int (zI y)]) rfl rfl rfl dL_agreement_5 0 13 hht (k' := 1) (n' := 6) rfl rfl (fun q hq => hq.elim) ⟨h_cm, h_co⟩ (fun q9 H1 lo1 hM hF hpo => ?_)
  replace h_cm := h_cm.kept hF 1 rfl (fun q _ _ h => h.elim)
  replace h_co := h_co.kept hF 28 rfl (fun q _ _ h => h.elim)
  replace h_out := h_out.kept hF 1 rfl (fun q _ _ h => h.elim)
  show V p l e (rmL 8 1 6) s m args below meth cd Q 5 H1 lo1 1 6 13 [(0, .ref x), (1, .int (zI w)), (2, .int (zI y)), (3, .ref oa)] [.ref q9]
  refine v_astore X dL_agreement_13 15 rfl (by decide) (L' := [(4, .ref q9), (0, .ref x), (1, .int (zI w)), (2, .int (zI y)), (3, .ref oa)]) rfl ?_
  refine v_iconst X dL_agreement_15 16 rfl ?_
  subst hQ; exact m_iret X hr hlk hM dL_agreement_16 rfl rfl
set_option maxHeartbeats 4000000 in
set_option maxRecDepth 20000 in
theorem w_X9_agreement_1_t (l : Launch) (hl : l.stackTraces = false) (E : Nat → Nat → Nat) (x : Nat) (co : Nat → Int → Int) (hs : Int) (er : Int) (fa : Int) (ss : Int) (w : Int) (y : Int) (oa : Nat) (lg : Nat → Int64) (hO : OkC co) (gw : Rg w) (gy : Rg y) (k0 : 0 ≤ w ∧ w < co 0 1) (nk : ¬ (0 ≤ y ∧ y < co 0 1)) : MuW l yL_agreement cL_agreement 5 (some .int) [(0, 10, 13, 25)] 8 1 6 E [] [.ref x, .int (zI w), .int (zI y), .ref oa] (fun H => PR E x [(x, .inr (11, [.ref (x + 1), .ref (x + 29), .ref (x + 57), .ref (x + 85), .ref (x + 311), .ref (x + 314), .ref (x + 319), .ref (x + 332), .int (zI hs), .int (zI er), .int (zI fa), .int (zI ss)]))] H ∧ PR E (x + 1) (courtW E (x + 1) co) H ∧ PR E oa [(oa, .inl (E 102 4, 1, .inr (.inl lg)))] H) (fun rv H => rv = some (.int (zI 1))) := by
  refine MuW.start (own := RL) rfl (by decide +kernel) (Nat.le_of_ble_eq_true rfl) ?_
  intro p e s m below meth cd args Q hQ X hr hlk htab hM hPr
  obtain ⟨h_cm, h_co, h_out⟩ := hPr
  refine v_aload_n X dL_agreement_0 1 rfl 3 rfl ?_
  refine v_iconst X dL_agreement_1 2 rfl ?_
  refine v_aload_n X dL_agreement_2 3 rfl 0 rfl ?_
  refine v_iload_n X dL_agreement_3 4 rfl 1 rfl ?_
  refine v_iload_n X dL_agreement_4 5 rfl 2 rfl ?_
  have hht : HT RL "java/lang/IndexOutOfBoundsException" s [(0, 10, 13, 25)] 5 0 13 := ⟨(0, 10, 13, 25), rfl, rfl, by decide, by decide, xl_L_25, xc_IOB, by
    intro i z hi hz
    omega⟩
  refine v_txC X htab hM (h_cm.1) (x_X9_agreement_1 l hl E x co hs er fa ss w y hO gw gy k0 nk) kvX9_agreement kiX9_agreement kl_L_95 (q0 := 0) rfl rfl (As := [.int (zI w), .int (zI y)]) rfl rfl rfl dL_agreement_5 0 13 hht (k' := 1) (n' := 6) rfl rfl (fun q hq => hq.elim) ⟨h_cm, h_co⟩ (fun q9 H1 lo1 hM hF hpo => ?_)
  replace h_cm := h_cm.kept hF 1 rfl (fun q _ _ h => h.elim)
  replace h_co := h_co.kept hF 28 rfl (fun q _ _ h => h.elim)
  replace h_out := h_out.kept hF 1 rfl (fun q _ _ h => h.elim)
  show V p l e (rmL 8 1 6) s m args below meth cd Q 5 H1 lo1 1 6 13 [(0, .ref x), (1, .int (zI w)), (2, .int (zI y)), (3, .ref oa)] [.ref q9]
  refine v_astore X dL_agreement_13 15 rfl (by decide) (L' := [(4, .ref q9), (0, .ref x), (1, .int (zI w)), (2, .int (zI y)), (3, .ref oa)]) rfl ?_
  refine v_iconst X dL_agreement_15 16 rfl ?_
  subst hQ; exact m_iret X hr hlk hM dL_agreement_16 rfl rfl
set_option maxHeartbeats 4000000 in
set_option maxRecDepth 20000 in
theorem w_X9_areConnected (l : Launch) (hl : l.stackTraces = false) (E : Nat → Nat → Nat) (x : Nat) (co : Nat → Int → Int) (hs : Int) (er : Int) (fa : Int) (ss : Int) (w : Int) (y : Int) (oa : Nat) (lg : Nat → Int64) (hO : OkC co) (gw : Rg w) (gy : Rg y) (k0 : 0 ≤ w ∧ w < co 0 1) (k1 : 0 ≤ y ∧ y < co 0 1) (hd_cm_out : x + 1 ≤ oa ∨ oa + 1 ≤ x) (hd_co_out : x + 1 + 28 ≤ oa ∨ oa + 1 ≤ x + 1) : MuW l yL_areConnected cL_areConnected 5 (some .int) [(0, 17, 20, 25)] 4 1 6 E [(oa, 1)] [.ref x, .int (zI w), .int (zI y), .ref oa] (fun H => PR E x [(x, .inr (11, [.ref (x + 1), .ref (x + 29), .ref (x + 57), .ref (x + 85), .ref (x + 311), .ref (x + 314), .ref (x + 319), .ref (x + 332), .int (zI hs), .int (zI er), .int (zI fa), .int (zI ss)]))] H ∧ PR E (x + 1) (courtW E (x + 1) co) H ∧ PR E oa [(oa, .inl (E 102 4, 1, .inr (.inl lg)))] H) (fun rv H => rv = some (.int (zI 0)) ∧ PR E oa [(oa, .inl (E 102 4, 1, .inr (.inl (fun _ => zL (bz (rtF (co 13) 8 w = rtF (co 13) 8 y))))))] H) := by
  refine MuW.start (own := RL) rfl (by decide +kernel) (Nat.le_of_ble_eq_true rfl) ?_
  intro p e s m below meth cd args Q hQ X hr hlk htab hM hPr
  obtain ⟨h_cm, h_co, h_out⟩ := hPr
  refine v_aload_n X dL_areConnected_0 1 rfl 3 rfl ?_
  refine v_iconst X dL_areConnected_1 2 rfl ?_
  refine v_aload_n X dL_areConnected_2 3 rfl 0 rfl ?_
  refine v_iload_n X dL_areConnected_3 4 rfl 1 rfl ?_
  refine v_iload_n X dL_areConnected_4 5 rfl 2 rfl ?_
  refine v_rdV X hM.C (PW.app h_cm.1 h_co.1) (c_X9_areConnected l E x co hs er fa ss w y hO gw gy k0 k1) kvX9_areConnected kiX9_areConnected kl_L_98 rfl rfl (As := [.int (zI w), .int (zI y)]) rfl rfl rfl dL_areConnected_5 8 rfl ?_
  show V p l e (rmL 4 1 6) s m args below meth cd Q 5 s.heap [] 0 0 8 [(0, .ref x), (1, .int (zI w)), (2, .int (zI y)), (3, .ref oa)] [.int (zI (bz (rtF ((co 13)) 8 w = rtF ((co 13)) 8 y))), .int (zI 0), .ref oa]
  refine v_bif_eq X dL_areConnected_8 11 15 rfl (by decide) (fun c_1 => ?_) (fun c_1 => ?_)
  · skip
    refine v_lconst 0 X dL_areConnected_15 rfl 16 rfl ?_
    refine v_last X hM h_out 0 rfl (Or.inl (fsH (by omega) (by omega))) dL_areConnected_16 17 rfl (ws' := [(oa, .inl (E 102 4, 1, .inr (.inl (fun _ => zL 0))))]) rfl (fun H2 lo2 hzz hM hF h_out => ?_)
    clear hzz
    replace h_cm := h_cm.kept hF 1 rfl (fsd (by omega))
    replace h_co := h_co.kept hF 28 rfl (fsd (by omega))
    refine v_goto X dL_areConnected_17 24 (by decide) ?_
    refine v_iconst X dL_areConnected_24 25 rfl ?_
    subst hQ; exact m_iret X hr hlk hM dL_areConnected_25 rfl ⟨rfl, (PR.to h_out (by first | rw [bz_t (φ := rtF (co 13) 8 w = rtF (co 13) 8 y) (by assumption)] | rw [bz_f (φ := rtF (co 13) 8 w = rtF (co 13) 8 y) (by assumption)]))⟩
  · skip
    refine v_lconst 1 X dL_areConnected_11 rfl 12 rfl ?_
    refine v_goto X dL_areConnected_12 16 (by decide) ?_
    refine v_last X hM h_out 0 rfl (Or.inl (fsH (by omega) (by omega))) dL_areConnected_16 17 rfl (ws' := [(oa, .inl (E 102 4, 1, .inr (.inl (fun _ => zL 1))))]) rfl (fun H3 lo3 hzz hM hF h_out => ?_)
    clear hzz
    replace h_cm := h_cm.kept hF 1 rfl (fsd (by omega))
    replace h_co := h_co.kept hF 28 rfl (fsd (by omega))
    refine v_goto X dL_areConnected_17 24 (by decide) ?_
    refine v_iconst X dL_areConnected_24 25 rfl ?_
    subst hQ; exact m_iret X hr hlk hM dL_areConnected_25 rfl ⟨rfl, (PR.to h_out (by first | rw [bz_t (φ := rtF (co 13) 8 w = rtF (co 13) 8 y) (by assumption)] | rw [bz_f (φ := rtF (co 13) 8 w = rtF (co 13) 8 y) (by assumption)]))⟩
set_option maxHeartbeats 4000000 in
set_option maxRecDepth 20000 in
theorem w_X9_areConnected_0_t (l : Launch) (hl : l.stackTraces = false) (E : Nat → Nat → Nat) (x : Nat) (co : Nat → Int → Int) (hs : Int) (er : Int) (fa : Int) (ss : Int) (w : Int) (y : Int) (oa : Nat) (lg : Nat → Int64) (hO : OkC co) (gw : Rg w) (gy : Rg y) (nk : ¬ (0 ≤ w ∧ w < co 0 1)) : MuW l yL_areConnected cL_areConnected 5 (some .int) [(0, 17, 20, 25)] 8 1 6 E [] [.ref x, .int (zI w), .int (zI y), .ref oa] (fun H => PR E x [(x, .inr (11, [.ref (x + 1), .ref (x + 29), .ref (x + 57), .ref (x + 85), .ref (x + 311), .ref (x + 314), .ref (x + 319), .ref (x + 332), .int (zI hs), .int (zI er), .int (zI fa), .int (zI ss)]))] H ∧ PR E (x + 1) (courtW E (x + 1) co) H ∧ PR E oa [(oa, .inl (E 102 4, 1, .inr (.inl lg)))] H) (fun rv H => rv = some (.int (zI 1))) := by
  refine MuW.start (own := RL) rfl (by decide +kernel) (Nat.le_of_ble_eq_true rfl) ?_
  intro p e s m below meth cd args Q hQ X hr hlk htab hM hPr
  obtain ⟨h_cm, h_co, h_out⟩ := hPr
  refine v_aload_n X dL_areConnected_0 1 rfl 3 rfl ?_
  refine v_iconst X dL_areConnected_1 2 rfl ?_
  refine v_aload_n X dL_areConnected_2 3 rfl 0 rfl ?_
  refine v_iload_n X dL_areConnected_3 4 rfl 1 rfl ?_
  refine v_iload_n X dL_areConnected_4 5 rfl 2 rfl ?_
  have hht : HT RL "java/lang/IndexOutOfBoundsException" s [(0, 17, 20, 25)] 5 0 20 := ⟨(0, 17, 20, 25), rfl, rfl, by decide, by decide, xl_L_25, xc_IOB, by
    intro i z hi hz
    omega⟩
  refine v_txC X htab hM (h_cm.1) (x_X9_areConnected_0 l hl E x co hs er fa ss w y hO gw gy nk) kvX9_areConnected kiX9_areConnected kl_L_98 (q0 := 0) rfl rfl (As := [.int (zI w), .int (zI y)]) rfl rfl rfl dL_areConnected_5 0 20 hht (k' := 1) (n' := 6) rfl rfl (fun q hq => hq.elim) ⟨h_cm, h_co⟩ (fun q9 H1 lo1 hM hF hpo => ?_)
  replace h_cm := h_cm.kept hF 1 rfl (fun q _ _ h => h.elim)
  replace h_co := h_co.kept hF 28 rfl (fun q _ _ h => h.elim)
  replace h_out := h_out.kept hF 1 rfl (fun q _ _ h => h.elim)
  show V p l e (rmL 8 1 6) s m args below meth cd Q 5 H1 lo1 1 6 20 [(0, .ref x), (1, .int (zI w)), (2, .int (zI y)), (3, .ref oa)] [.ref q9]
  refine v_astore X dL_areConnected_20 22 rfl (by decide) (L' := [(4, .ref q9), (0, .ref x), (1, .int (zI w)), (2, .int (zI y)), (3, .ref oa)]) rfl ?_
  refine v_iconst X dL_areConnected_22 23 rfl ?_
  subst hQ; exact m_iret X hr hlk hM dL_areConnected_23 rfl rfl
set_option maxHeartbeats 4000000 in
set_option maxRecDepth 20000 in
theorem w_X9_areConnected_1_t (l : Launch) (hl : l.stackTraces = false) (E : Nat → Nat → Nat) (x : Nat) (co : Nat → Int → Int) (hs : Int) (er : Int) (fa : Int) (ss : Int) (w : Int) (y : Int) (oa : Nat) (lg : Nat → Int64) (hO : OkC co) (gw : Rg w) (gy : Rg y) (k0 : 0 ≤ w ∧ w < co 0 1) (nk : ¬ (0 ≤ y ∧ y < co 0 1)) : MuW l yL_areConnected cL_areConnected 5 (some .int) [(0, 17, 20, 25)] 8 1 6 E [] [.ref x, .int (zI w), .int (zI y), .ref oa] (fun H => PR E x [(x, .inr (11, [.ref (x + 1), .ref (x + 29), .ref (x + 57), .ref (x + 85), .ref (x + 311), .ref (x + 314), .ref (x + 319), .ref (x + 332), .int (zI hs), .int (zI er), .int (zI fa), .int (zI ss)]))] H ∧ PR E (x + 1) (courtW E (x + 1) co) H ∧ PR E oa [(oa, .inl (E 102 4, 1, .inr (.inl lg)))] H) (fun rv H => rv = some (.int (zI 1))) := by
  refine MuW.start (own := RL) rfl (by decide +kernel) (Nat.le_of_ble_eq_true rfl) ?_
  intro p e s m below meth cd args Q hQ X hr hlk htab hM hPr
  obtain ⟨h_cm, h_co, h_out⟩ := hPr
  refine v_aload_n X dL_areConnected_0 1 rfl 3 rfl ?_
  refine v_iconst X dL_areConnected_1 2 rfl ?_
  refine v_aload_n X dL_areConnected_2 3 rfl 0 rfl ?_
  refine v_iload_n X dL_areConnected_3 4 rfl 1 rfl ?_
  refine v_iload_n X dL_areConnected_4 5 rfl 2 rfl ?_
  have hht : HT RL "java/lang/IndexOutOfBoundsException" s [(0, 17, 20, 25)] 5 0 20 := ⟨(0, 17, 20, 25), rfl, rfl, by decide, by decide, xl_L_25, xc_IOB, by
    intro i z hi hz
    omega⟩
  refine v_txC X htab hM (h_cm.1) (x_X9_areConnected_1 l hl E x co hs er fa ss w y hO gw gy k0 nk) kvX9_areConnected kiX9_areConnected kl_L_98 (q0 := 0) rfl rfl (As := [.int (zI w), .int (zI y)]) rfl rfl rfl dL_areConnected_5 0 20 hht (k' := 1) (n' := 6) rfl rfl (fun q hq => hq.elim) ⟨h_cm, h_co⟩ (fun q9 H1 lo1 hM hF hpo => ?_)
  replace h_cm := h_cm.kept hF 1 rfl (fun q _ _ h => h.elim)
  replace h_co := h_co.kept hF 28 rfl (fun q _ _ h => h.elim)
  replace h_out := h_out.kept hF 1 rfl (fun q _ _ h => h.elim)
  show V p l e (rmL 8 1 6) s m args below meth cd Q 5 H1 lo1 1 6 20 [(0, .ref x), (1, .int (zI w)), (2, .int (zI y)), (3, .ref oa)] [.ref q9]
  refine v_astore X dL_areConnected_20 22 rfl (by decide) (L' := [(4, .ref q9), (0, .ref x), (1, .int (zI w)), (2, .int (zI y)), (3, .ref oa)]) rfl ?_
  refine v_iconst X dL_areConnected_22 23 rfl ?_
  subst hQ; exact m_iret X hr hlk hM dL_areConnected_23 rfl rfl
set_option maxHeartbeats 4000000 in
set_option maxRecDepth 20000 in
theorem w_X9_groupSize (l : Launch) (hl : l.stackTraces = false) (E : Nat → Nat → Nat) (x : Nat) (co : Nat → Int → Int) (hs : Int) (er : Int) (fa : Int) (ss : Int) (w : Int) (oa : Nat) (lg : Nat → Int64) (hO : OkC co) (gw : Rg w) (k0 : 0 ≤ w ∧ w < co 0 1) (hd_cm_out : x + 1 ≤ oa ∨ oa + 1 ≤ x) (hd_co_out : x + 1 + 28 ≤ oa ∨ oa + 1 ≤ x + 1) : MuW l yL_groupSize cL_groupSize 4 (some .int) [(0, 9, 12, 25)] 5 1 6 E [(oa, 1)] [.ref x, .int (zI w), .ref oa] (fun H => PR E x [(x, .inr (11, [.ref (x + 1), .ref (x + 29), .ref (x + 57), .ref (x + 85), .ref (x + 311), .ref (x + 314), .ref (x + 319), .ref (x + 332), .int (zI hs), .int (zI er), .int (zI fa), .int (zI ss)]))] H ∧ PR E (x + 1) (courtW E (x + 1) co) H ∧ PR E oa [(oa, .inl (E 102 4, 1, .inr (.inl lg)))] H) (fun rv H => rv = some (.int (zI 0)) ∧ PR E oa [(oa, .inl (E 102 4, 1, .inr (.inl (fun _ => zL (sumZ (fun j => bz (rtF (co 13) 8 w = rtF (co 13) 8 j)) (co 0 1).toNat)))))] H) := by
  refine MuW.start (own := RL) rfl (by decide +kernel) (Nat.le_of_ble_eq_true rfl) ?_
  intro p e s m below meth cd args Q hQ X hr hlk htab hM hPr
  obtain ⟨h_cm, h_co, h_out⟩ := hPr
  refine v_aload_n X dL_groupSize_0 1 rfl 2 rfl ?_
  refine v_iconst X dL_groupSize_1 2 rfl ?_
  refine v_aload_n X dL_groupSize_2 3 rfl 0 rfl ?_
  refine v_iload_n X dL_groupSize_3 4 rfl 1 rfl ?_
  refine v_rdV X hM.C (PW.app h_cm.1 h_co.1) (c_X9_groupSize l E x co hs er fa ss w hO gw k0) kvX9_groupSize kiX9_groupSize kl_L_104 rfl rfl (As := [.int (zI w)]) rfl rfl rfl dL_groupSize_4 7 rfl ?_
  show V p l e (rmL 5 1 6) s m args below meth cd Q 4 s.heap [] 0 0 7 [(0, .ref x), (1, .int (zI w)), (2, .ref oa)] [.int (zI (sumZ (fun j => bz (rtF ((co 13)) 8 w = rtF ((co 13)) 8 j)) (co 0 1).toNat)), .int (zI 0), .ref oa]
  have hb_1 := hO.bw
  refine v_i2l X dL_groupSize_7 8 rfl ?_
  refine v_last X hM h_out 0 rfl (Or.inl (fsH (by omega) (by omega))) dL_groupSize_8 9 rfl (ws' := [(oa, .inl (E 102 4, 1, .inr (.inl (fun _ => zL (sumZ (fun j => bz (rtF ((co 13)) 8 w = rtF ((co 13)) 8 j)) (co 0 1).toNat)))))]) rfl (fun H2 lo2 hzz hM hF h_out => ?_)
  clear hzz
  replace h_cm := h_cm.kept hF 1 rfl (fsd (by omega))
  replace h_co := h_co.kept hF 28 rfl (fsd (by omega))
  refine v_goto X dL_groupSize_9 15 (by decide) ?_
  refine v_iconst X dL_groupSize_15 16 rfl ?_
  subst hQ; exact m_iret X hr hlk hM dL_groupSize_16 rfl ⟨rfl, h_out⟩
set_option maxHeartbeats 4000000 in
set_option maxRecDepth 20000 in
theorem w_X9_groupSize_0_t (l : Launch) (hl : l.stackTraces = false) (E : Nat → Nat → Nat) (x : Nat) (co : Nat → Int → Int) (hs : Int) (er : Int) (fa : Int) (ss : Int) (w : Int) (oa : Nat) (lg : Nat → Int64) (hO : OkC co) (gw : Rg w) (nk : ¬ (0 ≤ w ∧ w < co 0 1)) : MuW l yL_groupSize cL_groupSize 4 (some .int) [(0, 9, 12, 25)] 8 1 6 E [] [.ref x, .int (zI w), .ref oa] (fun H => PR E x [(x, .inr (11, [.ref (x + 1), .ref (x + 29), .ref (x + 57), .ref (x + 85), .ref (x + 311), .ref (x + 314), .ref (x + 319), .ref (x + 332), .int (zI hs), .int (zI er), .int (zI fa), .int (zI ss)]))] H ∧ PR E (x + 1) (courtW E (x + 1) co) H ∧ PR E oa [(oa, .inl (E 102 4, 1, .inr (.inl lg)))] H) (fun rv H => rv = some (.int (zI 1))) := by
  refine MuW.start (own := RL) rfl (by decide +kernel) (Nat.le_of_ble_eq_true rfl) ?_
  intro p e s m below meth cd args Q hQ X hr hlk htab hM hPr
  obtain ⟨h_cm, h_co, h_out⟩ := hPr
  refine v_aload_n X dL_groupSize_0 1 rfl 2 rfl ?_
  refine v_iconst X dL_groupSize_1 2 rfl ?_
  refine v_aload_n X dL_groupSize_2 3 rfl 0 rfl ?_
  refine v_iload_n X dL_groupSize_3 4 rfl 1 rfl ?_
  have hht : HT RL "java/lang/IndexOutOfBoundsException" s [(0, 9, 12, 25)] 4 0 12 := ⟨(0, 9, 12, 25), rfl, rfl, by decide, by decide, xl_L_25, xc_IOB, by
    intro i z hi hz
    omega⟩
  refine v_txC X htab hM (h_cm.1) (x_X9_groupSize_0 l hl E x co hs er fa ss w hO gw nk) kvX9_groupSize kiX9_groupSize kl_L_104 (q0 := 0) rfl rfl (As := [.int (zI w)]) rfl rfl rfl dL_groupSize_4 0 12 hht (k' := 1) (n' := 6) rfl rfl (fun q hq => hq.elim) ⟨h_cm, h_co⟩ (fun q9 H1 lo1 hM hF hpo => ?_)
  replace h_cm := h_cm.kept hF 1 rfl (fun q _ _ h => h.elim)
  replace h_co := h_co.kept hF 28 rfl (fun q _ _ h => h.elim)
  replace h_out := h_out.kept hF 1 rfl (fun q _ _ h => h.elim)
  show V p l e (rmL 8 1 6) s m args below meth cd Q 4 H1 lo1 1 6 12 [(0, .ref x), (1, .int (zI w)), (2, .ref oa)] [.ref q9]
  refine v_astore_n X dL_groupSize_12 13 rfl rfl (by decide) (L' := [(3, .ref q9), (0, .ref x), (1, .int (zI w)), (2, .ref oa)]) rfl ?_
  refine v_iconst X dL_groupSize_13 14 rfl ?_
  subst hQ; exact m_iret X hr hlk hM dL_groupSize_14 rfl rfl
set_option maxHeartbeats 4000000 in
set_option maxRecDepth 20000 in
theorem w_X9_heaviestWitness (l : Launch) (hl : l.stackTraces = false) (E : Nat → Nat → Nat) (x : Nat) (co : Nat → Int → Int) (hs : Int) (er : Int) (fa : Int) (ss : Int) (k : Int) (oa : Nat) (lg : Nat → Int64) (hO : OkC co) (gk : Rg k) (k0 : 0 ≤ k ∧ k < co 0 0) (k1 : 0 < co 6 k) (hd_cm_out : x + 1 ≤ oa ∨ oa + 1 ≤ x) (hd_co_out : x + 1 + 28 ≤ oa ∨ oa + 1 ≤ x + 1) : MuW l yL_heaviestWitness cL_heaviestWitness 4 (some .int) [(0, 9, 12, 25), (0, 9, 15, 31)] 4 1 6 E [(oa, 1)] [.ref x, .int (zI k), .ref oa] (fun H => PR E x [(x, .inr (11, [.ref (x + 1), .ref (x + 29), .ref (x + 57), .ref (x + 85), .ref (x + 311), .ref (x + 314), .ref (x + 319), .ref (x + 332), .int (zI hs), .int (zI er), .int (zI fa), .int (zI ss)]))] H ∧ PR E (x + 1) (courtW E (x + 1) co) H ∧ PR E oa [(oa, .inl (E 102 4, 1, .inr (.inl lg)))] H) (fun rv H => rv = some (.int (zI 0)) ∧ PR E oa [(oa, .inl (E 102 4, 1, .inr (.inl (fun _ => zL (co 7 (k * 6 + amx (wtC co k) (co 6 k).toNat))))))] H) := by
  refine MuW.start (own := RL) rfl (by decide +kernel) (Nat.le_of_ble_eq_true rfl) ?_
  intro p e s m below meth cd args Q hQ X hr hlk htab hM hPr
  obtain ⟨h_cm, h_co, h_out⟩ := hPr
  refine v_aload_n X dL_heaviestWitness_0 1 rfl 2 rfl ?_
  refine v_iconst X dL_heaviestWitness_1 2 rfl ?_
  refine v_aload_n X dL_heaviestWitness_2 3 rfl 0 rfl ?_
  refine v_iload_n X dL_heaviestWitness_3 4 rfl 1 rfl ?_
  refine v_rdV X hM.C (PW.app h_cm.1 h_co.1) (c_X9_heaviestWitness l E x co hs er fa ss k hO gk k0 k1) kvX9_heaviestWitness kiX9_heaviestWitness kl_L_107 rfl rfl (As := [.int (zI k)]) rfl rfl rfl dL_heaviestWitness_4 7 rfl ?_
  show V p l e (rmL 4 1 6) s m args below meth cd Q 4 s.heap [] 0 0 7 [(0, .ref x), (1, .int (zI k)), (2, .ref oa)] [.int (zI (co 7 (k * 6 + amx (wtC co k) (co 6 k).toNat))), .int (zI 0), .ref oa]
  have hb_1 := hO.b7 (k * 6 + amx (wtC co k) (co 6 k).toNat)
  have hb_2 := hO.b6 k
  refine v_i2l X dL_heaviestWitness_7 8 rfl ?_
  refine v_last X hM h_out 0 rfl (Or.inl (fsH (by omega) (by omega))) dL_heaviestWitness_8 9 rfl (ws' := [(oa, .inl (E 102 4, 1, .inr (.inl (fun _ => zL (co 7 (k * 6 + amx (wtC co k) (co 6 k).toNat))))))]) rfl (fun H3 lo3 hzz hM hF h_out => ?_)
  clear hzz
  replace h_cm := h_cm.kept hF 1 rfl (fsd (by omega))
  replace h_co := h_co.kept hF 28 rfl (fsd (by omega))
  refine v_goto X dL_heaviestWitness_9 18 (by decide) ?_
  refine v_iconst X dL_heaviestWitness_18 19 rfl ?_
  subst hQ; exact m_iret X hr hlk hM dL_heaviestWitness_19 rfl ⟨rfl, h_out⟩
set_option maxHeartbeats 4000000 in
set_option maxRecDepth 20000 in
theorem w_X9_heaviestWitness_0_t (l : Launch) (hl : l.stackTraces = false) (E : Nat → Nat → Nat) (x : Nat) (co : Nat → Int → Int) (hs : Int) (er : Int) (fa : Int) (ss : Int) (k : Int) (oa : Nat) (lg : Nat → Int64) (hO : OkC co) (gk : Rg k) (nk : ¬ (0 ≤ k ∧ k < co 0 0)) : MuW l yL_heaviestWitness cL_heaviestWitness 4 (some .int) [(0, 9, 12, 25), (0, 9, 15, 31)] 8 1 6 E [] [.ref x, .int (zI k), .ref oa] (fun H => PR E x [(x, .inr (11, [.ref (x + 1), .ref (x + 29), .ref (x + 57), .ref (x + 85), .ref (x + 311), .ref (x + 314), .ref (x + 319), .ref (x + 332), .int (zI hs), .int (zI er), .int (zI fa), .int (zI ss)]))] H ∧ PR E (x + 1) (courtW E (x + 1) co) H ∧ PR E oa [(oa, .inl (E 102 4, 1, .inr (.inl lg)))] H) (fun rv H => rv = some (.int (zI 1))) := by
  refine MuW.start (own := RL) rfl (by decide +kernel) (Nat.le_of_ble_eq_true rfl) ?_
  intro p e s m below meth cd args Q hQ X hr hlk htab hM hPr
  obtain ⟨h_cm, h_co, h_out⟩ := hPr
  refine v_aload_n X dL_heaviestWitness_0 1 rfl 2 rfl ?_
  refine v_iconst X dL_heaviestWitness_1 2 rfl ?_
  refine v_aload_n X dL_heaviestWitness_2 3 rfl 0 rfl ?_
  refine v_iload_n X dL_heaviestWitness_3 4 rfl 1 rfl ?_
  have hht : HT RL "java/lang/IndexOutOfBoundsException" s [(0, 9, 12, 25), (0, 9, 15, 31)] 4 0 12 := ⟨(0, 9, 12, 25), rfl, rfl, by decide, by decide, xl_L_25, xc_IOB, by
    intro i z hi hz
    omega⟩
  refine v_txC X htab hM (h_cm.1) (x_X9_heaviestWitness_0 l hl E x co hs er fa ss k hO gk nk) kvX9_heaviestWitness kiX9_heaviestWitness kl_L_107 (q0 := 0) rfl rfl (As := [.int (zI k)]) rfl rfl rfl dL_heaviestWitness_4 0 12 hht (k' := 1) (n' := 6) rfl rfl (fun q hq => hq.elim) ⟨h_cm, h_co⟩ (fun q9 H1 lo1 hM hF hpo => ?_)
  replace h_cm := h_cm.kept hF 1 rfl (fun q _ _ h => h.elim)
  replace h_co := h_co.kept hF 28 rfl (fun q _ _ h => h.elim)
  replace h_out := h_out.kept hF 1 rfl (fun q _ _ h => h.elim)
  show V p l e (rmL 8 1 6) s m args below meth cd Q 4 H1 lo1 1 6 12 [(0, .ref x), (1, .int (zI k)), (2, .ref oa)] [.ref q9]
  refine v_astore_n X dL_heaviestWitness_12 13 rfl rfl (by decide) (L' := [(3, .ref q9), (0, .ref x), (1, .int (zI k)), (2, .ref oa)]) rfl ?_
  refine v_iconst X dL_heaviestWitness_13 14 rfl ?_
  subst hQ; exact m_iret X hr hlk hM dL_heaviestWitness_14 rfl rfl
set_option maxHeartbeats 4000000 in
set_option maxRecDepth 20000 in
theorem w_X9_heaviestWitness_1_t (l : Launch) (hl : l.stackTraces = false) (E : Nat → Nat → Nat) (x : Nat) (co : Nat → Int → Int) (hs : Int) (er : Int) (fa : Int) (ss : Int) (k : Int) (oa : Nat) (lg : Nat → Int64) (hO : OkC co) (gk : Rg k) (k0 : 0 ≤ k ∧ k < co 0 0) (nk : ¬ (0 < co 6 k)) : MuW l yL_heaviestWitness cL_heaviestWitness 4 (some .int) [(0, 9, 12, 25), (0, 9, 15, 31)] 7 1 6 E [] [.ref x, .int (zI k), .ref oa] (fun H => PR E x [(x, .inr (11, [.ref (x + 1), .ref (x + 29), .ref (x + 57), .ref (x + 85), .ref (x + 311), .ref (x + 314), .ref (x + 319), .ref (x + 332), .int (zI hs), .int (zI er), .int (zI fa), .int (zI ss)]))] H ∧ PR E (x + 1) (courtW E (x + 1) co) H ∧ PR E oa [(oa, .inl (E 102 4, 1, .inr (.inl lg)))] H) (fun rv H => rv = some (.int (zI 2))) := by
  refine MuW.start (own := RL) rfl (by decide +kernel) (Nat.le_of_ble_eq_true rfl) ?_
  intro p e s m below meth cd args Q hQ X hr hlk htab hM hPr
  obtain ⟨h_cm, h_co, h_out⟩ := hPr
  refine v_aload_n X dL_heaviestWitness_0 1 rfl 2 rfl ?_
  refine v_iconst X dL_heaviestWitness_1 2 rfl ?_
  refine v_aload_n X dL_heaviestWitness_2 3 rfl 0 rfl ?_
  refine v_iload_n X dL_heaviestWitness_3 4 rfl 1 rfl ?_
  have hht : HT RL "java/util/NoSuchElementException" s [(0, 9, 12, 25), (0, 9, 15, 31)] 4 1 15 := ⟨(0, 9, 15, 31), rfl, rfl, by decide, by decide, xl_L_31, xc_NSE, by
    intro i z hi hz
    rcases (show i = 0 by omega) with rfl
    · cases hz; exact ⟨by decide, _, xl_L_25, hM.C.2.2.2.2.2.2.1 3 2 _ _ (by decide) rfl rfl⟩⟩
  refine v_txC X htab hM (h_cm.1) (x_X9_heaviestWitness_1 l hl E x co hs er fa ss k hO gk k0 nk) kvX9_heaviestWitness kiX9_heaviestWitness kl_L_107 (q0 := 0) rfl rfl (As := [.int (zI k)]) rfl rfl rfl dL_heaviestWitness_4 1 15 hht (k' := 1) (n' := 6) rfl rfl (fun q hq => hq.elim) ⟨h_cm, h_co⟩ (fun q9 H1 lo1 hM hF hpo => ?_)
  replace h_cm := h_cm.kept hF 1 rfl (fun q _ _ h => h.elim)
  replace h_co := h_co.kept hF 28 rfl (fun q _ _ h => h.elim)
  replace h_out := h_out.kept hF 1 rfl (fun q _ _ h => h.elim)
  show V p l e (rmL 7 1 6) s m args below meth cd Q 4 H1 lo1 1 6 15 [(0, .ref x), (1, .int (zI k)), (2, .ref oa)] [.ref q9]
  refine v_astore_n X dL_heaviestWitness_15 16 rfl rfl (by decide) (L' := [(3, .ref q9), (0, .ref x), (1, .int (zI k)), (2, .ref oa)]) rfl ?_
  refine v_iconst X dL_heaviestWitness_16 17 rfl ?_
  subst hQ; exact m_iret X hr hlk hM dL_heaviestWitness_17 rfl rfl
set_option maxHeartbeats 4000000 in
set_option maxRecDepth 20000 in
theorem w_X9_prosecutionWeight (l : Launch) (hl : l.stackTraces = false) (E : Nat → Nat → Nat) (x : Nat) (co : Nat → Int → Int) (hs : Int) (er : Int) (fa : Int) (ss : Int) (k : Int) (oa : Nat) (lg : Nat → Int64) (hO : OkC co) (gk : Rg k) (k0 : 0 ≤ k ∧ k < co 0 0) (hd_cm_out : x + 1 ≤ oa ∨ oa + 1 ≤ x) (hd_co_out : x + 1 + 28 ≤ oa ∨ oa + 1 ≤ x + 1) : MuW l yL_prosecutionWeight cL_prosecutionWeight 4 (some .int) [(0, 9, 12, 25)] 4 1 6 E [(oa, 1)] [.ref x, .int (zI k), .ref oa] (fun H => PR E x [(x, .inr (11, [.ref (x + 1), .ref (x + 29), .ref (x + 57), .ref (x + 85), .ref (x + 311), .ref (x + 314), .ref (x + 319), .ref (x + 332), .int (zI hs), .int (zI er), .int (zI fa), .int (zI ss)]))] H ∧ PR E (x + 1) (courtW E (x + 1) co) H ∧ PR E oa [(oa, .inl (E 102 4, 1, .inr (.inl lg)))] H) (fun rv H => rv = some (.int (zI 0)) ∧ PR E oa [(oa, .inl (E 102 4, 1, .inr (.inl (fun _ => zL (sumZ (fun j => if sdC co k j = 1 then wtC co k j else 0) (co 6 k).toNat)))))] H) := by
  refine MuW.start (own := RL) rfl (by decide +kernel) (Nat.le_of_ble_eq_true rfl) ?_
  intro p e s m below meth cd args Q hQ X hr hlk htab hM hPr
  obtain ⟨h_cm, h_co, h_out⟩ := hPr
  refine v_aload_n X dL_prosecutionWeight_0 1 rfl 2 rfl ?_
  refine v_iconst X dL_prosecutionWeight_1 2 rfl ?_
  refine v_aload_n X dL_prosecutionWeight_2 3 rfl 0 rfl ?_
  refine v_iload_n X dL_prosecutionWeight_3 4 rfl 1 rfl ?_
  refine v_rdV X hM.C (PW.app h_cm.1 h_co.1) (c_X9_prosecutionWeight l E x co hs er fa ss k hO gk k0) kvX9_prosecutionWeight kiX9_prosecutionWeight kl_L_114 rfl rfl (As := [.int (zI k)]) rfl rfl rfl dL_prosecutionWeight_4 7 rfl ?_
  show V p l e (rmL 4 1 6) s m args below meth cd Q 4 s.heap [] 0 0 7 [(0, .ref x), (1, .int (zI k)), (2, .ref oa)] [.int (zI (sumZ (fun j => if sdC co k j = 1 then wtC co k j else 0) (co 6 k).toNat)), .int (zI 0), .ref oa]
  have hb_1 := hO.b6 k
  refine v_i2l X dL_prosecutionWeight_7 8 rfl ?_
  refine v_last X hM h_out 0 rfl (Or.inl (fsH (by omega) (by omega))) dL_prosecutionWeight_8 9 rfl (ws' := [(oa, .inl (E 102 4, 1, .inr (.inl (fun _ => zL (sumZ (fun j => if sdC co k j = 1 then wtC co k j else 0) (co 6 k).toNat)))))]) rfl (fun H2 lo2 hzz hM hF h_out => ?_)
  clear hzz
  replace h_cm := h_cm.kept hF 1 rfl (fsd (by omega))
  replace h_co := h_co.kept hF 28 rfl (fsd (by omega))
  refine v_goto X dL_prosecutionWeight_9 15 (by decide) ?_
  refine v_iconst X dL_prosecutionWeight_15 16 rfl ?_
  subst hQ; exact m_iret X hr hlk hM dL_prosecutionWeight_16 rfl ⟨rfl, h_out⟩
set_option maxHeartbeats 4000000 in
set_option maxRecDepth 20000 in
theorem w_X9_prosecutionWeight_0_t (l : Launch) (hl : l.stackTraces = false) (E : Nat → Nat → Nat) (x : Nat) (co : Nat → Int → Int) (hs : Int) (er : Int) (fa : Int) (ss : Int) (k : Int) (oa : Nat) (lg : Nat → Int64) (hO : OkC co) (gk : Rg k) (nk : ¬ (0 ≤ k ∧ k < co 0 0)) : MuW l yL_prosecutionWeight cL_prosecutionWeight 4 (some .int) [(0, 9, 12, 25)] 8 1 6 E [] [.ref x, .int (zI k), .ref oa] (fun H => PR E x [(x, .inr (11, [.ref (x + 1), .ref (x + 29), .ref (x + 57), .ref (x + 85), .ref (x + 311), .ref (x + 314), .ref (x + 319), .ref (x + 332), .int (zI hs), .int (zI er), .int (zI fa), .int (zI ss)]))] H ∧ PR E (x + 1) (courtW E (x + 1) co) H ∧ PR E oa [(oa, .inl (E 102 4, 1, .inr (.inl lg)))] H) (fun rv H => rv = some (.int (zI 1))) := by
  refine MuW.start (own := RL) rfl (by decide +kernel) (Nat.le_of_ble_eq_true rfl) ?_
  intro p e s m below meth cd args Q hQ X hr hlk htab hM hPr
  obtain ⟨h_cm, h_co, h_out⟩ := hPr
  refine v_aload_n X dL_prosecutionWeight_0 1 rfl 2 rfl ?_
  refine v_iconst X dL_prosecutionWeight_1 2 rfl ?_
  refine v_aload_n X dL_prosecutionWeight_2 3 rfl 0 rfl ?_
  refine v_iload_n X dL_prosecutionWeight_3 4 rfl 1 rfl ?_
  have hht : HT RL "java/lang/IndexOutOfBoundsException" s [(0, 9, 12, 25)] 4 0 12 := ⟨(0, 9, 12, 25), rfl, rfl, by decide, by decide, xl_L_25, xc_IOB, by
    intro i z hi hz
    omega⟩
  refine v_txC X htab hM (h_cm.1) (x_X9_prosecutionWeight_0 l hl E x co hs er fa ss k hO gk nk) kvX9_prosecutionWeight kiX9_prosecutionWeight kl_L_114 (q0 := 0) rfl rfl (As := [.int (zI k)]) rfl rfl rfl dL_prosecutionWeight_4 0 12 hht (k' := 1) (n' := 6) rfl rfl (fun q hq => hq.elim) ⟨h_cm, h_co⟩ (fun q9 H1 lo1 hM hF hpo => ?_)
  replace h_cm := h_cm.kept hF 1 rfl (fun q _ _ h => h.elim)
  replace h_co := h_co.kept hF 28 rfl (fun q _ _ h => h.elim)
  replace h_out := h_out.kept hF 1 rfl (fun q _ _ h => h.elim)
  show V p l e (rmL 8 1 6) s m args below meth cd Q 4 H1 lo1 1 6 12 [(0, .ref x), (1, .int (zI k)), (2, .ref oa)] [.ref q9]
  refine v_astore_n X dL_prosecutionWeight_12 13 rfl rfl (by decide) (L' := [(3, .ref q9), (0, .ref x), (1, .int (zI k)), (2, .ref oa)]) rfl ?_
  refine v_iconst X dL_prosecutionWeight_13 14 rfl ?_
  subst hQ; exact m_iret X hr hlk hM dL_prosecutionWeight_14 rfl rfl
set_option maxHeartbeats 4000000 in
set_option maxRecDepth 20000 in
theorem w_X9_defenceWeight (l : Launch) (hl : l.stackTraces = false) (E : Nat → Nat → Nat) (x : Nat) (co : Nat → Int → Int) (hs : Int) (er : Int) (fa : Int) (ss : Int) (k : Int) (oa : Nat) (lg : Nat → Int64) (hO : OkC co) (gk : Rg k) (k0 : 0 ≤ k ∧ k < co 0 0) (hd_cm_out : x + 1 ≤ oa ∨ oa + 1 ≤ x) (hd_co_out : x + 1 + 28 ≤ oa ∨ oa + 1 ≤ x + 1) : MuW l yL_defenceWeight cL_defenceWeight 4 (some .int) [(0, 9, 12, 25)] 4 1 6 E [(oa, 1)] [.ref x, .int (zI k), .ref oa] (fun H => PR E x [(x, .inr (11, [.ref (x + 1), .ref (x + 29), .ref (x + 57), .ref (x + 85), .ref (x + 311), .ref (x + 314), .ref (x + 319), .ref (x + 332), .int (zI hs), .int (zI er), .int (zI fa), .int (zI ss)]))] H ∧ PR E (x + 1) (courtW E (x + 1) co) H ∧ PR E oa [(oa, .inl (E 102 4, 1, .inr (.inl lg)))] H) (fun rv H => rv = some (.int (zI 0)) ∧ PR E oa [(oa, .inl (E 102 4, 1, .inr (.inl (fun _ => zL (sumZ (fun j => if sdC co k j = (-1) then wtC co k j else 0) (co 6 k).toNat)))))] H) := by
  refine MuW.start (own := RL) rfl (by decide +kernel) (Nat.le_of_ble_eq_true rfl) ?_
  intro p e s m below meth cd args Q hQ X hr hlk htab hM hPr
  obtain ⟨h_cm, h_co, h_out⟩ := hPr
  refine v_aload_n X dL_defenceWeight_0 1 rfl 2 rfl ?_
  refine v_iconst X dL_defenceWeight_1 2 rfl ?_
  refine v_aload_n X dL_defenceWeight_2 3 rfl 0 rfl ?_
  refine v_iload_n X dL_defenceWeight_3 4 rfl 1 rfl ?_
  refine v_rdV X hM.C (PW.app h_cm.1 h_co.1) (c_X9_defenceWeight l E x co hs er fa ss k hO gk k0) kvX9_defenceWeight kiX9_defenceWeight kl_L_117 rfl rfl (As := [.int (zI k)]) rfl rfl rfl dL_defenceWeight_4 7 rfl ?_
  show V p l e (rmL 4 1 6) s m args below meth cd Q 4 s.heap [] 0 0 7 [(0, .ref x), (1, .int (zI k)), (2, .ref oa)] [.int (zI (sumZ (fun j => if sdC co k j = (-1) then wtC co k j else 0) (co 6 k).toNat)), .int (zI 0), .ref oa]
  have hb_1 := hO.b6 k
  refine v_i2l X dL_defenceWeight_7 8 rfl ?_
  refine v_last X hM h_out 0 rfl (Or.inl (fsH (by omega) (by omega))) dL_defenceWeight_8 9 rfl (ws' := [(oa, .inl (E 102 4, 1, .inr (.inl (fun _ => zL (sumZ (fun j => if sdC co k j = (-1) then wtC co k j else 0) (co 6 k).toNat)))))]) rfl (fun H2 lo2 hzz hM hF h_out => ?_)
  clear hzz
  replace h_cm := h_cm.kept hF 1 rfl (fsd (by omega))
  replace h_co := h_co.kept hF 28 rfl (fsd (by omega))
  refine v_goto X dL_defenceWeight_9 15 (by decide) ?_
  refine v_iconst X dL_defenceWeight_15 16 rfl ?_
  subst hQ; exact m_iret X hr hlk hM dL_defenceWeight_16 rfl ⟨rfl, h_out⟩
set_option maxHeartbeats 4000000 in
set_option maxRecDepth 20000 in
theorem w_X9_defenceWeight_0_t (l : Launch) (hl : l.stackTraces = false) (E : Nat → Nat → Nat) (x : Nat) (co : Nat → Int → Int) (hs : Int) (er : Int) (fa : Int) (ss : Int) (k : Int) (oa : Nat) (lg : Nat → Int64) (hO : OkC co) (gk : Rg k) (nk : ¬ (0 ≤ k ∧ k < co 0 0)) : MuW l yL_defenceWeight cL_defenceWeight 4 (some .int) [(0, 9, 12, 25)] 8 1 6 E [] [.ref x, .int (zI k), .ref oa] (fun H => PR E x [(x, .inr (11, [.ref (x + 1), .ref (x + 29), .ref (x + 57), .ref (x + 85), .ref (x + 311), .ref (x + 314), .ref (x + 319), .ref (x + 332), .int (zI hs), .int (zI er), .int (zI fa), .int (zI ss)]))] H ∧ PR E (x + 1) (courtW E (x + 1) co) H ∧ PR E oa [(oa, .inl (E 102 4, 1, .inr (.inl lg)))] H) (fun rv H => rv = some (.int (zI 1))) := by
  refine MuW.start (own := RL) rfl (by decide +kernel) (Nat.le_of_ble_eq_true rfl) ?_
  intro p e s m below meth cd args Q hQ X hr hlk htab hM hPr
  obtain ⟨h_cm, h_co, h_out⟩ := hPr
  refine v_aload_n X dL_defenceWeight_0 1 rfl 2 rfl ?_
  refine v_iconst X dL_defenceWeight_1 2 rfl ?_
  refine v_aload_n X dL_defenceWeight_2 3 rfl 0 rfl ?_
  refine v_iload_n X dL_defenceWeight_3 4 rfl 1 rfl ?_
  have hht : HT RL "java/lang/IndexOutOfBoundsException" s [(0, 9, 12, 25)] 4 0 12 := ⟨(0, 9, 12, 25), rfl, rfl, by decide, by decide, xl_L_25, xc_IOB, by
    intro i z hi hz
    omega⟩
  refine v_txC X htab hM (h_cm.1) (x_X9_defenceWeight_0 l hl E x co hs er fa ss k hO gk nk) kvX9_defenceWeight kiX9_defenceWeight kl_L_117 (q0 := 0) rfl rfl (As := [.int (zI k)]) rfl rfl rfl dL_defenceWeight_4 0 12 hht (k' := 1) (n' := 6) rfl rfl (fun q hq => hq.elim) ⟨h_cm, h_co⟩ (fun q9 H1 lo1 hM hF hpo => ?_)
  replace h_cm := h_cm.kept hF 1 rfl (fun q _ _ h => h.elim)
  replace h_co := h_co.kept hF 28 rfl (fun q _ _ h => h.elim)
  replace h_out := h_out.kept hF 1 rfl (fun q _ _ h => h.elim)
  show V p l e (rmL 8 1 6) s m args below meth cd Q 4 H1 lo1 1 6 12 [(0, .ref x), (1, .int (zI k)), (2, .ref oa)] [.ref q9]
  refine v_astore_n X dL_defenceWeight_12 13 rfl rfl (by decide) (L' := [(3, .ref q9), (0, .ref x), (1, .int (zI k)), (2, .ref oa)]) rfl ?_
  refine v_iconst X dL_defenceWeight_13 14 rfl ?_
  subst hQ; exact m_iret X hr hlk hM dL_defenceWeight_14 rfl rfl
set_option maxHeartbeats 4000000 in
set_option maxRecDepth 20000 in
theorem w_X9_margin (l : Launch) (hl : l.stackTraces = false) (E : Nat → Nat → Nat) (x : Nat) (co : Nat → Int → Int) (hs : Int) (er : Int) (fa : Int) (ss : Int) (k : Int) (oa : Nat) (lg : Nat → Int64) (hO : OkC co) (gk : Rg k) (k0 : 0 ≤ k ∧ k < co 0 0) (hd_cm_out : x + 1 ≤ oa ∨ oa + 1 ≤ x) (hd_co_out : x + 1 + 28 ≤ oa ∨ oa + 1 ≤ x + 1) : MuW l yL_margin cL_margin 4 (some .int) [(0, 9, 12, 25)] 4 1 6 E [(oa, 1)] [.ref x, .int (zI k), .ref oa] (fun H => PR E x [(x, .inr (11, [.ref (x + 1), .ref (x + 29), .ref (x + 57), .ref (x + 85), .ref (x + 311), .ref (x + 314), .ref (x + 319), .ref (x + 332), .int (zI hs), .int (zI er), .int (zI fa), .int (zI ss)]))] H ∧ PR E (x + 1) (courtW E (x + 1) co) H ∧ PR E oa [(oa, .inl (E 102 4, 1, .inr (.inl lg)))] H) (fun rv H => rv = some (.int (zI 0)) ∧ PR E oa [(oa, .inl (E 102 4, 1, .inr (.inl (fun _ => zL (mgC co k)))))] H) := by
  refine MuW.start (own := RL) rfl (by decide +kernel) (Nat.le_of_ble_eq_true rfl) ?_
  intro p e s m below meth cd args Q hQ X hr hlk htab hM hPr
  obtain ⟨h_cm, h_co, h_out⟩ := hPr
  refine v_aload_n X dL_margin_0 1 rfl 2 rfl ?_
  refine v_iconst X dL_margin_1 2 rfl ?_
  refine v_aload_n X dL_margin_2 3 rfl 0 rfl ?_
  refine v_iload_n X dL_margin_3 4 rfl 1 rfl ?_
  refine v_rdV X hM.C (PW.app h_cm.1 h_co.1) (c_X9_margin l E x co hs er fa ss k hO gk k0) kvX9_margin kiX9_margin kl_L_120 rfl rfl (As := [.int (zI k)]) rfl rfl rfl dL_margin_4 7 rfl ?_
  show V p l e (rmL 4 1 6) s m args below meth cd Q 4 s.heap [] 0 0 7 [(0, .ref x), (1, .int (zI k)), (2, .ref oa)] [.int (zI (mgC co k)), .int (zI 0), .ref oa]
  refine v_i2l X dL_margin_7 8 rfl ?_
  refine v_last X hM h_out 0 rfl (Or.inl (fsH (by omega) (by omega))) dL_margin_8 9 rfl (ws' := [(oa, .inl (E 102 4, 1, .inr (.inl (fun _ => zL (mgC co k)))))]) rfl (fun H1 lo1 hzz hM hF h_out => ?_)
  clear hzz
  replace h_cm := h_cm.kept hF 1 rfl (fsd (by omega))
  replace h_co := h_co.kept hF 28 rfl (fsd (by omega))
  refine v_goto X dL_margin_9 15 (by decide) ?_
  refine v_iconst X dL_margin_15 16 rfl ?_
  subst hQ; exact m_iret X hr hlk hM dL_margin_16 rfl ⟨rfl, h_out⟩
set_option maxHeartbeats 4000000 in
set_option maxRecDepth 20000 in
theorem w_X9_margin_0_t (l : Launch) (hl : l.stackTraces = false) (E : Nat → Nat → Nat) (x : Nat) (co : Nat → Int → Int) (hs : Int) (er : Int) (fa : Int) (ss : Int) (k : Int) (oa : Nat) (lg : Nat → Int64) (hO : OkC co) (gk : Rg k) (nk : ¬ (0 ≤ k ∧ k < co 0 0)) : MuW l yL_margin cL_margin 4 (some .int) [(0, 9, 12, 25)] 8 1 6 E [] [.ref x, .int (zI k), .ref oa] (fun H => PR E x [(x, .inr (11, [.ref (x + 1), .ref (x + 29), .ref (x + 57), .ref (x + 85), .ref (x + 311), .ref (x + 314), .ref (x + 319), .ref (x + 332), .int (zI hs), .int (zI er), .int (zI fa), .int (zI ss)]))] H ∧ PR E (x + 1) (courtW E (x + 1) co) H ∧ PR E oa [(oa, .inl (E 102 4, 1, .inr (.inl lg)))] H) (fun rv H => rv = some (.int (zI 1))) := by
  refine MuW.start (own := RL) rfl (by decide +kernel) (Nat.le_of_ble_eq_true rfl) ?_
  intro p e s m below meth cd args Q hQ X hr hlk htab hM hPr
  obtain ⟨h_cm, h_co, h_out⟩ := hPr
  refine v_aload_n X dL_margin_0 1 rfl 2 rfl ?_
  refine v_iconst X dL_margin_1 2 rfl ?_
  refine v_aload_n X dL_margin_2 3 rfl 0 rfl ?_
  refine v_iload_n X dL_margin_3 4 rfl 1 rfl ?_
  have hht : HT RL "java/lang/IndexOutOfBoundsException" s [(0, 9, 12, 25)] 4 0 12 := ⟨(0, 9, 12, 25), rfl, rfl, by decide, by decide, xl_L_25, xc_IOB, by
    intro i z hi hz
    omega⟩
  refine v_txC X htab hM (h_cm.1) (x_X9_margin_0 l hl E x co hs er fa ss k hO gk nk) kvX9_margin kiX9_margin kl_L_120 (q0 := 0) rfl rfl (As := [.int (zI k)]) rfl rfl rfl dL_margin_4 0 12 hht (k' := 1) (n' := 6) rfl rfl (fun q hq => hq.elim) ⟨h_cm, h_co⟩ (fun q9 H1 lo1 hM hF hpo => ?_)
  replace h_cm := h_cm.kept hF 1 rfl (fun q _ _ h => h.elim)
  replace h_co := h_co.kept hF 28 rfl (fun q _ _ h => h.elim)
  replace h_out := h_out.kept hF 1 rfl (fun q _ _ h => h.elim)
  show V p l e (rmL 8 1 6) s m args below meth cd Q 4 H1 lo1 1 6 12 [(0, .ref x), (1, .int (zI k)), (2, .ref oa)] [.ref q9]
  refine v_astore_n X dL_margin_12 13 rfl rfl (by decide) (L' := [(3, .ref q9), (0, .ref x), (1, .int (zI k)), (2, .ref oa)]) rfl ?_
  refine v_iconst X dL_margin_13 14 rfl ?_
  subst hQ; exact m_iret X hr hlk hM dL_margin_14 rfl rfl
set_option maxHeartbeats 4000000 in
set_option maxRecDepth 20000 in
theorem w_X9_marginByCredibility (l : Launch) (hl : l.stackTraces = false) (E : Nat → Nat → Nat) (x : Nat) (co : Nat → Int → Int) (hs : Int) (er : Int) (fa : Int) (ss : Int) (k : Int) (oa : Nat) (lg : Nat → Int64) (hO : OkC co) (gk : Rg k) (k0 : 0 ≤ k ∧ k < co 0 0) (hd_cm_out : x + 1 ≤ oa ∨ oa + 1 ≤ x) (hd_co_out : x + 1 + 28 ≤ oa ∨ oa + 1 ≤ x + 1) : MuW l yL_marginByCredibility cL_marginByCredibility 4 (some .int) [(0, 9, 12, 25)] 5 1 6 E [(oa, 1)] [.ref x, .int (zI k), .ref oa] (fun H => PR E x [(x, .inr (11, [.ref (x + 1), .ref (x + 29), .ref (x + 57), .ref (x + 85), .ref (x + 311), .ref (x + 314), .ref (x + 319), .ref (x + 332), .int (zI hs), .int (zI er), .int (zI fa), .int (zI ss)]))] H ∧ PR E (x + 1) (courtW E (x + 1) co) H ∧ PR E oa [(oa, .inl (E 102 4, 1, .inr (.inl lg)))] H) (fun rv H => rv = some (.int (zI 0)) ∧ PR E oa [(oa, .inl (E 102 4, 1, .inr (.inl (fun _ => zL (mlC co k)))))] H) := by
  refine MuW.start (own := RL) rfl (by decide +kernel) (Nat.le_of_ble_eq_true rfl) ?_
  intro p e s m below meth cd args Q hQ X hr hlk htab hM hPr
  obtain ⟨h_cm, h_co, h_out⟩ := hPr
  refine v_aload_n X dL_marginByCredibility_0 1 rfl 2 rfl ?_
  refine v_iconst X dL_marginByCredibility_1 2 rfl ?_
  refine v_aload_n X dL_marginByCredibility_2 3 rfl 0 rfl ?_
  refine v_iload_n X dL_marginByCredibility_3 4 rfl 1 rfl ?_
  refine v_rdV X hM.C (PW.app h_cm.1 h_co.1) (c_X9_marginByCredibility l E x co hs er fa ss k hO gk k0) kvX9_marginByCredibility kiX9_marginByCredibility kl_L_123 rfl rfl (As := [.int (zI k)]) rfl rfl rfl dL_marginByCredibility_4 7 rfl ?_
  show V p l e (rmL 5 1 6) s m args below meth cd Q 4 s.heap [] 0 0 7 [(0, .ref x), (1, .int (zI k)), (2, .ref oa)] [.int (zI (mlC co k)), .int (zI 0), .ref oa]
  refine v_i2l X dL_marginByCredibility_7 8 rfl ?_
  refine v_last X hM h_out 0 rfl (Or.inl (fsH (by omega) (by omega))) dL_marginByCredibility_8 9 rfl (ws' := [(oa, .inl (E 102 4, 1, .inr (.inl (fun _ => zL (mlC co k)))))]) rfl (fun H1 lo1 hzz hM hF h_out => ?_)
  clear hzz
  replace h_cm := h_cm.kept hF 1 rfl (fsd (by omega))
  replace h_co := h_co.kept hF 28 rfl (fsd (by omega))
  refine v_goto X dL_marginByCredibility_9 15 (by decide) ?_
  refine v_iconst X dL_marginByCredibility_15 16 rfl ?_
  subst hQ; exact m_iret X hr hlk hM dL_marginByCredibility_16 rfl ⟨rfl, h_out⟩
set_option maxHeartbeats 4000000 in
set_option maxRecDepth 20000 in
theorem w_X9_marginByCredibility_0_t (l : Launch) (hl : l.stackTraces = false) (E : Nat → Nat → Nat) (x : Nat) (co : Nat → Int → Int) (hs : Int) (er : Int) (fa : Int) (ss : Int) (k : Int) (oa : Nat) (lg : Nat → Int64) (hO : OkC co) (gk : Rg k) (nk : ¬ (0 ≤ k ∧ k < co 0 0)) : MuW l yL_marginByCredibility cL_marginByCredibility 4 (some .int) [(0, 9, 12, 25)] 8 1 6 E [] [.ref x, .int (zI k), .ref oa] (fun H => PR E x [(x, .inr (11, [.ref (x + 1), .ref (x + 29), .ref (x + 57), .ref (x + 85), .ref (x + 311), .ref (x + 314), .ref (x + 319), .ref (x + 332), .int (zI hs), .int (zI er), .int (zI fa), .int (zI ss)]))] H ∧ PR E (x + 1) (courtW E (x + 1) co) H ∧ PR E oa [(oa, .inl (E 102 4, 1, .inr (.inl lg)))] H) (fun rv H => rv = some (.int (zI 1))) := by
  refine MuW.start (own := RL) rfl (by decide +kernel) (Nat.le_of_ble_eq_true rfl) ?_
  intro p e s m below meth cd args Q hQ X hr hlk htab hM hPr
  obtain ⟨h_cm, h_co, h_out⟩ := hPr
  refine v_aload_n X dL_marginByCredibility_0 1 rfl 2 rfl ?_
  refine v_iconst X dL_marginByCredibility_1 2 rfl ?_
  refine v_aload_n X dL_marginByCredibility_2 3 rfl 0 rfl ?_
  refine v_iload_n X dL_marginByCredibility_3 4 rfl 1 rfl ?_
  have hht : HT RL "java/lang/IndexOutOfBoundsException" s [(0, 9, 12, 25)] 4 0 12 := ⟨(0, 9, 12, 25), rfl, rfl, by decide, by decide, xl_L_25, xc_IOB, by
    intro i z hi hz
    omega⟩
  refine v_txC X htab hM (h_cm.1) (x_X9_marginByCredibility_0 l hl E x co hs er fa ss k hO gk nk) kvX9_marginByCredibility kiX9_marginByCredibility kl_L_123 (q0 := 0) rfl rfl (As := [.int (zI k)]) rfl rfl rfl dL_marginByCredibility_4 0 12 hht (k' := 1) (n' := 6) rfl rfl (fun q hq => hq.elim) ⟨h_cm, h_co⟩ (fun q9 H1 lo1 hM hF hpo => ?_)
  replace h_cm := h_cm.kept hF 1 rfl (fun q _ _ h => h.elim)
  replace h_co := h_co.kept hF 28 rfl (fun q _ _ h => h.elim)
  replace h_out := h_out.kept hF 1 rfl (fun q _ _ h => h.elim)
  show V p l e (rmL 8 1 6) s m args below meth cd Q 4 H1 lo1 1 6 12 [(0, .ref x), (1, .int (zI k)), (2, .ref oa)] [.ref q9]
  refine v_astore_n X dL_marginByCredibility_12 13 rfl rfl (by decide) (L' := [(3, .ref q9), (0, .ref x), (1, .int (zI k)), (2, .ref oa)]) rfl ?_
  refine v_iconst X dL_marginByCredibility_13 14 rfl ?_
  subst hQ; exact m_iret X hr hlk hM dL_marginByCredibility_14 rfl rfl
set_option maxHeartbeats 4000000 in
set_option maxRecDepth 20000 in
theorem w_X9_firmAnswersToGuilty (l : Launch) (hl : l.stackTraces = false) (E : Nat → Nat → Nat) (x : Nat) (co : Nat → Int → Int) (hs : Int) (er : Int) (fa : Int) (ss : Int) (k : Int) (w : Int) (oa : Nat) (lg : Nat → Int64) (hO : OkC co) (gk : Rg k) (gw : Rg w) (k0 : 0 ≤ k ∧ k < co 0 0) (k1 : 0 ≤ w ∧ w < co 0 1) (k2 : 0 < co 9 (k * 8 + w)) (k3 : 0 ≤ faC co k w) (hd_cm_out : x + 1 ≤ oa ∨ oa + 1 ≤ x) (hd_co_out : x + 1 + 28 ≤ oa ∨ oa + 1 ≤ x + 1) : MuW l yL_firmAnswersToGuilty cL_firmAnswersToGuilty 5 (some .int) [(0, 10, 13, 25), (0, 10, 17, 31)] 5 1 6 E [(oa, 1)] [.ref x, .int (zI k), .int (zI w), .ref oa] (fun H => PR E x [(x, .inr (11, [.ref (x + 1), .ref (x + 29), .ref (x + 57), .ref (x + 85), .ref (x + 311), .ref (x + 314), .ref (x + 319), .ref (x + 332), .int (zI hs), .int (zI er), .int (zI fa), .int (zI ss)]))] H ∧ PR E (x + 1) (courtW E (x + 1) co) H ∧ PR E oa [(oa, .inl (E 102 4, 1, .inr (.inl lg)))] H) (fun rv H => rv = some (.int (zI 0)) ∧ PR E oa [(oa, .inl (E 102 4, 1, .inr (.inl (fun _ => zL (faC co k w)))))] H) := by
  refine MuW.start (own := RL) rfl (by decide +kernel) (Nat.le_of_ble_eq_true rfl) ?_
  intro p e s m below meth cd args Q hQ X hr hlk htab hM hPr
  obtain ⟨h_cm, h_co, h_out⟩ := hPr
  refine v_aload_n X dL_firmAnswersToGuilty_0 1 rfl 3 rfl ?_
  refine v_iconst X dL_firmAnswersToGuilty_1 2 rfl ?_
  refine v_aload_n X dL_firmAnswersToGuilty_2 3 rfl 0 rfl ?_
  refine v_iload_n X dL_firmAnswersToGuilty_3 4 rfl 1 rfl ?_
  refine v_iload_n X dL_firmAnswersToGuilty_4 5 rfl 2 rfl ?_
  refine v_rdV X hM.C (PW.app h_cm.1 h_co.1) (c_X9_firmAnswersToGuilty l E x co hs er fa ss k w hO gk gw k0 k1 k2 k3) kvX9_firmAnswersToGuilty kiX9_firmAnswersToGuilty kl_L_126 rfl rfl (As := [.int (zI k), .int (zI w)]) rfl rfl rfl dL_firmAnswersToGuilty_5 8 rfl ?_
  show V p l e (rmL 5 1 6) s m args below meth cd Q 5 s.heap [] 0 0 8 [(0, .ref x), (1, .int (zI k)), (2, .int (zI w)), (3, .ref oa)] [.int (zI (faC co k w)), .int (zI 0), .ref oa]
  refine v_i2l X dL_firmAnswersToGuilty_8 9 rfl ?_
  refine v_last X hM h_out 0 rfl (Or.inl (fsH (by omega) (by omega))) dL_firmAnswersToGuilty_9 10 rfl (ws' := [(oa, .inl (E 102 4, 1, .inr (.inl (fun _ => zL (faC co k w)))))]) rfl (fun H1 lo1 hzz hM hF h_out => ?_)
  clear hzz
  replace h_cm := h_cm.kept hF 1 rfl (fsd (by omega))
  replace h_co := h_co.kept hF 28 rfl (fsd (by omega))
  refine v_goto X dL_firmAnswersToGuilty_10 21 (by decide) ?_
  refine v_iconst X dL_firmAnswersToGuilty_21 22 rfl ?_
  subst hQ; exact m_iret X hr hlk hM dL_firmAnswersToGuilty_22 rfl ⟨rfl, h_out⟩
set_option maxHeartbeats 4000000 in
set_option maxRecDepth 20000 in
theorem w_X9_firmAnswersToGuilty_0_t (l : Launch) (hl : l.stackTraces = false) (E : Nat → Nat → Nat) (x : Nat) (co : Nat → Int → Int) (hs : Int) (er : Int) (fa : Int) (ss : Int) (k : Int) (w : Int) (oa : Nat) (lg : Nat → Int64) (hO : OkC co) (gk : Rg k) (gw : Rg w) (nk : ¬ (0 ≤ k ∧ k < co 0 0)) : MuW l yL_firmAnswersToGuilty cL_firmAnswersToGuilty 5 (some .int) [(0, 10, 13, 25), (0, 10, 17, 31)] 9 1 6 E [] [.ref x, .int (zI k), .int (zI w), .ref oa] (fun H => PR E x [(x, .inr (11, [.ref (x + 1), .ref (x + 29), .ref (x + 57), .ref (x + 85), .ref (x + 311), .ref (x + 314), .ref (x + 319), .ref (x + 332), .int (zI hs), .int (zI er), .int (zI fa), .int (zI ss)]))] H ∧ PR E (x + 1) (courtW E (x + 1) co) H ∧ PR E oa [(oa, .inl (E 102 4, 1, .inr (.inl lg)))] H) (fun rv H => rv = some (.int (zI 1))) := by
  refine MuW.start (own := RL) rfl (by decide +kernel) (Nat.le_of_ble_eq_true rfl) ?_
  intro p e s m below meth cd args Q hQ X hr hlk htab hM hPr
  obtain ⟨h_cm, h_co, h_out⟩ := hPr
  refine v_aload_n X dL_firmAnswersToGuilty_0 1 rfl 3 rfl ?_
  refine v_iconst X dL_firmAnswersToGuilty_1 2 rfl ?_
  refine v_aload_n X dL_firmAnswersToGuilty_2 3 rfl 0 rfl ?_
  refine v_iload_n X dL_firmAnswersToGuilty_3 4 rfl 1 rfl ?_
  refine v_iload_n X dL_firmAnswersToGuilty_4 5 rfl 2 rfl ?_
  have hht : HT RL "java/lang/IndexOutOfBoundsException" s [(0, 10, 13, 25), (0, 10, 17, 31)] 5 0 13 := ⟨(0, 10, 13, 25), rfl, rfl, by decide, by decide, xl_L_25, xc_IOB, by
    intro i z hi hz
    omega⟩
  refine v_txC X htab hM (h_cm.1) (x_X9_firmAnswersToGuilty_0 l hl E x co hs er fa ss k w hO gk gw nk) kvX9_firmAnswersToGuilty kiX9_firmAnswersToGuilty kl_L_126 (q0 := 0) rfl rfl (As := [.int (zI k), .int (zI w)]) rfl rfl rfl dL_firmAnswersToGuilty_5 0 13 hht (k' := 1) (n' := 6) rfl rfl (fun q hq => hq.elim) ⟨h_cm, h_co⟩ (fun q9 H1 lo1 hM hF hpo => ?_)
  replace h_cm := h_cm.kept hF 1 rfl (fun q _ _ h => h.elim)
  replace h_co := h_co.kept hF 28 rfl (fun q _ _ h => h.elim)
  replace h_out := h_out.kept hF 1 rfl (fun q _ _ h => h.elim)
  show V p l e (rmL 9 1 6) s m args below meth cd Q 5 H1 lo1 1 6 13 [(0, .ref x), (1, .int (zI k)), (2, .int (zI w)), (3, .ref oa)] [.ref q9]
  refine v_astore X dL_firmAnswersToGuilty_13 15 rfl (by decide) (L' := [(4, .ref q9), (0, .ref x), (1, .int (zI k)), (2, .int (zI w)), (3, .ref oa)]) rfl ?_
  refine v_iconst X dL_firmAnswersToGuilty_15 16 rfl ?_
  subst hQ; exact m_iret X hr hlk hM dL_firmAnswersToGuilty_16 rfl rfl
set_option maxHeartbeats 4000000 in
set_option maxRecDepth 20000 in
theorem w_X9_firmAnswersToGuilty_1_t (l : Launch) (hl : l.stackTraces = false) (E : Nat → Nat → Nat) (x : Nat) (co : Nat → Int → Int) (hs : Int) (er : Int) (fa : Int) (ss : Int) (k : Int) (w : Int) (oa : Nat) (lg : Nat → Int64) (hO : OkC co) (gk : Rg k) (gw : Rg w) (k0 : 0 ≤ k ∧ k < co 0 0) (nk : ¬ (0 ≤ w ∧ w < co 0 1)) : MuW l yL_firmAnswersToGuilty cL_firmAnswersToGuilty 5 (some .int) [(0, 10, 13, 25), (0, 10, 17, 31)] 9 1 6 E [] [.ref x, .int (zI k), .int (zI w), .ref oa] (fun H => PR E x [(x, .inr (11, [.ref (x + 1), .ref (x + 29), .ref (x + 57), .ref (x + 85), .ref (x + 311), .ref (x + 314), .ref (x + 319), .ref (x + 332), .int (zI hs), .int (zI er), .int (zI fa), .int (zI ss)]))] H ∧ PR E (x + 1) (courtW E (x + 1) co) H ∧ PR E oa [(oa, .inl (E 102 4, 1, .inr (.inl lg)))] H) (fun rv H => rv = some (.int (zI 1))) := by
  refine MuW.start (own := RL) rfl (by decide +kernel) (Nat.le_of_ble_eq_true rfl) ?_
  intro p e s m below meth cd args Q hQ X hr hlk htab hM hPr
  obtain ⟨h_cm, h_co, h_out⟩ := hPr
  refine v_aload_n X dL_firmAnswersToGuilty_0 1 rfl 3 rfl ?_
  refine v_iconst X dL_firmAnswersToGuilty_1 2 rfl ?_
  refine v_aload_n X dL_firmAnswersToGuilty_2 3 rfl 0 rfl ?_
  refine v_iload_n X dL_firmAnswersToGuilty_3 4 rfl 1 rfl ?_
  refine v_iload_n X dL_firmAnswersToGuilty_4 5 rfl 2 rfl ?_
  have hht : HT RL "java/lang/IndexOutOfBoundsException" s [(0, 10, 13, 25), (0, 10, 17, 31)] 5 0 13 := ⟨(0, 10, 13, 25), rfl, rfl, by decide, by decide, xl_L_25, xc_IOB, by
    intro i z hi hz
    omega⟩
  refine v_txC X htab hM (h_cm.1) (x_X9_firmAnswersToGuilty_1 l hl E x co hs er fa ss k w hO gk gw k0 nk) kvX9_firmAnswersToGuilty kiX9_firmAnswersToGuilty kl_L_126 (q0 := 0) rfl rfl (As := [.int (zI k), .int (zI w)]) rfl rfl rfl dL_firmAnswersToGuilty_5 0 13 hht (k' := 1) (n' := 6) rfl rfl (fun q hq => hq.elim) ⟨h_cm, h_co⟩ (fun q9 H1 lo1 hM hF hpo => ?_)
  replace h_cm := h_cm.kept hF 1 rfl (fun q _ _ h => h.elim)
  replace h_co := h_co.kept hF 28 rfl (fun q _ _ h => h.elim)
  replace h_out := h_out.kept hF 1 rfl (fun q _ _ h => h.elim)
  show V p l e (rmL 9 1 6) s m args below meth cd Q 5 H1 lo1 1 6 13 [(0, .ref x), (1, .int (zI k)), (2, .int (zI w)), (3, .ref oa)] [.ref q9]
  refine v_astore X dL_firmAnswersToGuilty_13 15 rfl (by decide) (L' := [(4, .ref q9), (0, .ref x), (1, .int (zI k)), (2, .int (zI w)), (3, .ref oa)]) rfl ?_
  refine v_iconst X dL_firmAnswersToGuilty_15 16 rfl ?_
  subst hQ; exact m_iret X hr hlk hM dL_firmAnswersToGuilty_16 rfl rfl
set_option maxHeartbeats 4000000 in
set_option maxRecDepth 20000 in
theorem w_X9_firmAnswersToGuilty_2_t (l : Launch) (hl : l.stackTraces = false) (E : Nat → Nat → Nat) (x : Nat) (co : Nat → Int → Int) (hs : Int) (er : Int) (fa : Int) (ss : Int) (k : Int) (w : Int) (oa : Nat) (lg : Nat → Int64) (hO : OkC co) (gk : Rg k) (gw : Rg w) (k0 : 0 ≤ k ∧ k < co 0 0) (k1 : 0 ≤ w ∧ w < co 0 1) (nk : ¬ (0 < co 9 (k * 8 + w))) : MuW l yL_firmAnswersToGuilty cL_firmAnswersToGuilty 5 (some .int) [(0, 10, 13, 25), (0, 10, 17, 31)] 8 1 6 E [] [.ref x, .int (zI k), .int (zI w), .ref oa] (fun H => PR E x [(x, .inr (11, [.ref (x + 1), .ref (x + 29), .ref (x + 57), .ref (x + 85), .ref (x + 311), .ref (x + 314), .ref (x + 319), .ref (x + 332), .int (zI hs), .int (zI er), .int (zI fa), .int (zI ss)]))] H ∧ PR E (x + 1) (courtW E (x + 1) co) H ∧ PR E oa [(oa, .inl (E 102 4, 1, .inr (.inl lg)))] H) (fun rv H => rv = some (.int (zI 2))) := by
  refine MuW.start (own := RL) rfl (by decide +kernel) (Nat.le_of_ble_eq_true rfl) ?_
  intro p e s m below meth cd args Q hQ X hr hlk htab hM hPr
  obtain ⟨h_cm, h_co, h_out⟩ := hPr
  refine v_aload_n X dL_firmAnswersToGuilty_0 1 rfl 3 rfl ?_
  refine v_iconst X dL_firmAnswersToGuilty_1 2 rfl ?_
  refine v_aload_n X dL_firmAnswersToGuilty_2 3 rfl 0 rfl ?_
  refine v_iload_n X dL_firmAnswersToGuilty_3 4 rfl 1 rfl ?_
  refine v_iload_n X dL_firmAnswersToGuilty_4 5 rfl 2 rfl ?_
  have hht : HT RL "java/util/NoSuchElementException" s [(0, 10, 13, 25), (0, 10, 17, 31)] 5 1 17 := ⟨(0, 10, 17, 31), rfl, rfl, by decide, by decide, xl_L_31, xc_NSE, by
    intro i z hi hz
    rcases (show i = 0 by omega) with rfl
    · cases hz; exact ⟨by decide, _, xl_L_25, hM.C.2.2.2.2.2.2.1 3 2 _ _ (by decide) rfl rfl⟩⟩
  refine v_txC X htab hM (h_cm.1) (x_X9_firmAnswersToGuilty_2 l hl E x co hs er fa ss k w hO gk gw k0 k1 nk) kvX9_firmAnswersToGuilty kiX9_firmAnswersToGuilty kl_L_126 (q0 := 0) rfl rfl (As := [.int (zI k), .int (zI w)]) rfl rfl rfl dL_firmAnswersToGuilty_5 1 17 hht (k' := 1) (n' := 6) rfl rfl (fun q hq => hq.elim) ⟨h_cm, h_co⟩ (fun q9 H1 lo1 hM hF hpo => ?_)
  replace h_cm := h_cm.kept hF 1 rfl (fun q _ _ h => h.elim)
  replace h_co := h_co.kept hF 28 rfl (fun q _ _ h => h.elim)
  replace h_out := h_out.kept hF 1 rfl (fun q _ _ h => h.elim)
  show V p l e (rmL 8 1 6) s m args below meth cd Q 5 H1 lo1 1 6 17 [(0, .ref x), (1, .int (zI k)), (2, .int (zI w)), (3, .ref oa)] [.ref q9]
  refine v_astore X dL_firmAnswersToGuilty_17 19 rfl (by decide) (L' := [(4, .ref q9), (0, .ref x), (1, .int (zI k)), (2, .int (zI w)), (3, .ref oa)]) rfl ?_
  refine v_iconst X dL_firmAnswersToGuilty_19 20 rfl ?_
  subst hQ; exact m_iret X hr hlk hM dL_firmAnswersToGuilty_20 rfl rfl
set_option maxHeartbeats 4000000 in
set_option maxRecDepth 20000 in
theorem w_X9_firmAnswersToGuilty_3_t (l : Launch) (hl : l.stackTraces = false) (E : Nat → Nat → Nat) (x : Nat) (co : Nat → Int → Int) (hs : Int) (er : Int) (fa : Int) (ss : Int) (k : Int) (w : Int) (oa : Nat) (lg : Nat → Int64) (hO : OkC co) (gk : Rg k) (gw : Rg w) (k0 : 0 ≤ k ∧ k < co 0 0) (k1 : 0 ≤ w ∧ w < co 0 1) (k2 : 0 < co 9 (k * 8 + w)) (nk : ¬ (0 ≤ faC co k w)) : MuW l yL_firmAnswersToGuilty cL_firmAnswersToGuilty 5 (some .int) [(0, 10, 13, 25), (0, 10, 17, 31)] 7 1 6 E [] [.ref x, .int (zI k), .int (zI w), .ref oa] (fun H => PR E x [(x, .inr (11, [.ref (x + 1), .ref (x + 29), .ref (x + 57), .ref (x + 85), .ref (x + 311), .ref (x + 314), .ref (x + 319), .ref (x + 332), .int (zI hs), .int (zI er), .int (zI fa), .int (zI ss)]))] H ∧ PR E (x + 1) (courtW E (x + 1) co) H ∧ PR E oa [(oa, .inl (E 102 4, 1, .inr (.inl lg)))] H) (fun rv H => rv = some (.int (zI 2))) := by
  refine MuW.start (own := RL) rfl (by decide +kernel) (Nat.le_of_ble_eq_true rfl) ?_
  intro p e s m below meth cd args Q hQ X hr hlk htab hM hPr
  obtain ⟨h_cm, h_co, h_out⟩ := hPr
  refine v_aload_n X dL_firmAnswersToGuilty_0 1 rfl 3 rfl ?_
  refine v_iconst X dL_firmAnswersToGuilty_1 2 rfl ?_
  refine v_aload_n X dL_firmAnswersToGuilty_2 3 rfl 0 rfl ?_
  refine v_iload_n X dL_firmAnswersToGuilty_3 4 rfl 1 rfl ?_
  refine v_iload_n X dL_firmAnswersToGuilty_4 5 rfl 2 rfl ?_
  have hht : HT RL "java/util/NoSuchElementException" s [(0, 10, 13, 25), (0, 10, 17, 31)] 5 1 17 := ⟨(0, 10, 17, 31), rfl, rfl, by decide, by decide, xl_L_31, xc_NSE, by
    intro i z hi hz
    rcases (show i = 0 by omega) with rfl
    · cases hz; exact ⟨by decide, _, xl_L_25, hM.C.2.2.2.2.2.2.1 3 2 _ _ (by decide) rfl rfl⟩⟩
  refine v_txC X htab hM (h_cm.1) (x_X9_firmAnswersToGuilty_3 l hl E x co hs er fa ss k w hO gk gw k0 k1 k2 nk) kvX9_firmAnswersToGuilty kiX9_firmAnswersToGuilty kl_L_126 (q0 := 0) rfl rfl (As := [.int (zI k), .int (zI w)]) rfl rfl rfl dL_firmAnswersToGuilty_5 1 17 hht (k' := 1) (n' := 6) rfl rfl (fun q hq => hq.elim) ⟨h_cm, h_co⟩ (fun q9 H1 lo1 hM hF hpo => ?_)
  replace h_cm := h_cm.kept hF 1 rfl (fun q _ _ h => h.elim)
  replace h_co := h_co.kept hF 28 rfl (fun q _ _ h => h.elim)
  replace h_out := h_out.kept hF 1 rfl (fun q _ _ h => h.elim)
  show V p l e (rmL 7 1 6) s m args below meth cd Q 5 H1 lo1 1 6 17 [(0, .ref x), (1, .int (zI k)), (2, .int (zI w)), (3, .ref oa)] [.ref q9]
  refine v_astore X dL_firmAnswersToGuilty_17 19 rfl (by decide) (L' := [(4, .ref q9), (0, .ref x), (1, .int (zI k)), (2, .int (zI w)), (3, .ref oa)]) rfl ?_
  refine v_iconst X dL_firmAnswersToGuilty_19 20 rfl ?_
  subst hQ; exact m_iret X hr hlk hM dL_firmAnswersToGuilty_20 rfl rfl
set_option maxHeartbeats 4000000 in
set_option maxRecDepth 20000 in
theorem w_X9_sentence (l : Launch) (hl : l.stackTraces = false) (E : Nat → Nat → Nat) (x : Nat) (co : Nat → Int → Int) (hs : Int) (er : Int) (fa : Int) (ss : Int) (d : Int) (oa : Nat) (lg : Nat → Int64) (hO : OkC co) (gd : Rg d) (k0 : 0 ≤ d ∧ d < 6) (hd_cm_out : x + 1 ≤ oa ∨ oa + 1 ≤ x) (hd_co_out : x + 1 + 28 ≤ oa ∨ oa + 1 ≤ x + 1) : MuW l yL_sentence cL_sentence 4 (some .int) [(0, 9, 12, 13)] 3 1 6 E [(oa, 1)] [.ref x, .int (zI d), .ref oa] (fun H => PR E x [(x, .inr (11, [.ref (x + 1), .ref (x + 29), .ref (x + 57), .ref (x + 85), .ref (x + 311), .ref (x + 314), .ref (x + 319), .ref (x + 332), .int (zI hs), .int (zI er), .int (zI fa), .int (zI ss)]))] H ∧ PR E (x + 1) (courtW E (x + 1) co) H ∧ PR E oa [(oa, .inl (E 102 4, 1, .inr (.inl lg)))] H) (fun rv H => rv = some (.int (zI 0)) ∧ PR E oa [(oa, .inl (E 102 4, 1, .inr (.inl (fun _ => zL (co 12 d)))))] H) := by
  refine MuW.start (own := RL) rfl (by decide +kernel) (Nat.le_of_ble_eq_true rfl) ?_
  intro p e s m below meth cd args Q hQ X hr hlk htab hM hPr
  obtain ⟨h_cm, h_co, h_out⟩ := hPr
  refine v_aload_n X dL_sentence_0 1 rfl 2 rfl ?_
  refine v_iconst X dL_sentence_1 2 rfl ?_
  refine v_aload_n X dL_sentence_2 3 rfl 0 rfl ?_
  refine v_iload_n X dL_sentence_3 4 rfl 1 rfl ?_
  refine v_rdV X hM.C (PW.app h_cm.1 h_co.1) (c_X9_sentence l E x co hs er fa ss d hO gd k0) kvX9_sentence kiX9_sentence kl_L_129 rfl rfl (As := [.int (zI d)]) rfl rfl rfl dL_sentence_4 7 rfl ?_
  show V p l e (rmL 3 1 6) s m args below meth cd Q 4 s.heap [] 0 0 7 [(0, .ref x), (1, .int (zI d)), (2, .ref oa)] [.int (zI (co 12 d)), .int (zI 0), .ref oa]
  have hb_1 := hO.b12 d
  refine v_i2l X dL_sentence_7 8 rfl ?_
  refine v_last X hM h_out 0 rfl (Or.inl (fsH (by omega) (by omega))) dL_sentence_8 9 rfl (ws' := [(oa, .inl (E 102 4, 1, .inr (.inl (fun _ => zL (co 12 d)))))]) rfl (fun H2 lo2 hzz hM hF h_out => ?_)
  clear hzz
  replace h_cm := h_cm.kept hF 1 rfl (fsd (by omega))
  replace h_co := h_co.kept hF 28 rfl (fsd (by omega))
  refine v_goto X dL_sentence_9 15 (by decide) ?_
  refine v_iconst X dL_sentence_15 16 rfl ?_
  subst hQ; exact m_iret X hr hlk hM dL_sentence_16 rfl ⟨rfl, h_out⟩
set_option maxHeartbeats 4000000 in
set_option maxRecDepth 20000 in
theorem w_X9_sentence_0_t (l : Launch) (hl : l.stackTraces = false) (E : Nat → Nat → Nat) (x : Nat) (co : Nat → Int → Int) (hs : Int) (er : Int) (fa : Int) (ss : Int) (d : Int) (oa : Nat) (lg : Nat → Int64) (hO : OkC co) (gd : Rg d) (nk : ¬ (0 ≤ d ∧ d < 6)) : MuW l yL_sentence cL_sentence 4 (some .int) [(0, 9, 12, 13)] 8 1 6 E [] [.ref x, .int (zI d), .ref oa] (fun H => PR E x [(x, .inr (11, [.ref (x + 1), .ref (x + 29), .ref (x + 57), .ref (x + 85), .ref (x + 311), .ref (x + 314), .ref (x + 319), .ref (x + 332), .int (zI hs), .int (zI er), .int (zI fa), .int (zI ss)]))] H ∧ PR E (x + 1) (courtW E (x + 1) co) H ∧ PR E oa [(oa, .inl (E 102 4, 1, .inr (.inl lg)))] H) (fun rv H => rv = some (.int (zI 1))) := by
  refine MuW.start (own := RL) rfl (by decide +kernel) (Nat.le_of_ble_eq_true rfl) ?_
  intro p e s m below meth cd args Q hQ X hr hlk htab hM hPr
  obtain ⟨h_cm, h_co, h_out⟩ := hPr
  refine v_aload_n X dL_sentence_0 1 rfl 2 rfl ?_
  refine v_iconst X dL_sentence_1 2 rfl ?_
  refine v_aload_n X dL_sentence_2 3 rfl 0 rfl ?_
  refine v_iload_n X dL_sentence_3 4 rfl 1 rfl ?_
  have hht : HT RL "java/lang/IllegalArgumentException" s [(0, 9, 12, 13)] 4 0 12 := ⟨(0, 9, 12, 13), rfl, rfl, by decide, by decide, xl_L_13, xc_IAE, by
    intro i z hi hz
    omega⟩
  refine v_txC X htab hM (h_cm.1) (x_X9_sentence_0 l hl E x co hs er fa ss d hO gd nk) kvX9_sentence kiX9_sentence kl_L_129 (q0 := 0) rfl rfl (As := [.int (zI d)]) rfl rfl rfl dL_sentence_4 0 12 hht (k' := 1) (n' := 6) rfl rfl (fun q hq => hq.elim) ⟨h_cm, h_co⟩ (fun q9 H1 lo1 hM hF hpo => ?_)
  replace h_cm := h_cm.kept hF 1 rfl (fun q _ _ h => h.elim)
  replace h_co := h_co.kept hF 28 rfl (fun q _ _ h => h.elim)
  replace h_out := h_out.kept hF 1 rfl (fun q _ _ h => h.elim)
  show V p l e (rmL 8 1 6) s m args below meth cd Q 4 H1 lo1 1 6 12 [(0, .ref x), (1, .int (zI d)), (2, .ref oa)] [.ref q9]
  refine v_astore_n X dL_sentence_12 13 rfl rfl (by decide) (L' := [(3, .ref q9), (0, .ref x), (1, .int (zI d)), (2, .ref oa)]) rfl ?_
  refine v_iconst X dL_sentence_13 14 rfl ?_
  subst hQ; exact m_iret X hr hlk hM dL_sentence_14 rfl rfl
set_option maxHeartbeats 4000000 in
set_option maxRecDepth 20000 in
theorem w_X9_sentenceByCases (l : Launch) (hl : l.stackTraces = false) (E : Nat → Nat → Nat) (x : Nat) (co : Nat → Int → Int) (hs : Int) (er : Int) (fa : Int) (ss : Int) (d : Int) (oa : Nat) (lg : Nat → Int64) (hO : OkC co) (gd : Rg d) (k0 : 0 ≤ d ∧ d < 6) (hd_cm_out : x + 1 ≤ oa ∨ oa + 1 ≤ x) (hd_co_out : x + 1 + 28 ≤ oa ∨ oa + 1 ≤ x + 1) : MuW l yL_sentenceByCases cL_sentenceByCases 4 (some .int) [(0, 9, 12, 13)] 4 1 6 E [(oa, 1)] [.ref x, .int (zI d), .ref oa] (fun H => PR E x [(x, .inr (11, [.ref (x + 1), .ref (x + 29), .ref (x + 57), .ref (x + 85), .ref (x + 311), .ref (x + 314), .ref (x + 319), .ref (x + 332), .int (zI hs), .int (zI er), .int (zI fa), .int (zI ss)]))] H ∧ PR E (x + 1) (courtW E (x + 1) co) H ∧ PR E oa [(oa, .inl (E 102 4, 1, .inr (.inl lg)))] H) (fun rv H => rv = some (.int (zI 0)) ∧ (PR E oa [(oa, .inl (E 102 4, 1, .inr (.inl (fun _ => zL (sumZ (fun j => if co 1 j = d ∧ ¬ co 4 j = 0 then co 2 j + 1 else 0) (co 0 0).toNat)))))] H)) := by
  refine MuW.start (own := RL) rfl (by decide +kernel) (Nat.le_of_ble_eq_true rfl) ?_
  intro p e s m below meth cd args Q hQ X hr hlk htab hM hPr
  obtain ⟨h_cm, h_co, h_out⟩ := hPr
  refine v_aload_n X dL_sentenceByCases_0 1 rfl 2 rfl ?_
  refine v_iconst X dL_sentenceByCases_1 2 rfl ?_
  refine v_aload_n X dL_sentenceByCases_2 3 rfl 0 rfl ?_
  refine v_iload_n X dL_sentenceByCases_3 4 rfl 1 rfl ?_
  refine v_rdV X hM.C (PW.app h_cm.1 h_co.1) (c_X9_sentenceByCases l E x co hs er fa ss d hO gd k0) kvX9_sentenceByCases kiX9_sentenceByCases kl_L_132 rfl rfl (As := [.int (zI d)]) rfl rfl rfl dL_sentenceByCases_4 7 rfl ?_
  show V p l e (rmL 4 1 6) s m args below meth cd Q 4 s.heap [] 0 0 7 [(0, .ref x), (1, .int (zI d)), (2, .ref oa)] [.int (zI (sumZ (fun j => if co 1 j = d ∧ ¬ co 4 j = 0 then co 2 j + 1 else 0) (co 0 0).toNat)), .int (zI 0), .ref oa]
  have hb_1 := hO.b0
  refine v_i2l X dL_sentenceByCases_7 8 rfl ?_
  refine v_last X hM h_out 0 rfl (Or.inl (fsH (by omega) (by omega))) dL_sentenceByCases_8 9 rfl (ws' := [(oa, .inl (E 102 4, 1, .inr (.inl (fun _ => zL (sumZ (fun j => if co 1 j = d ∧ ¬ co 4 j = 0 then co 2 j + 1 else 0) (co 0 0).toNat)))))]) rfl (fun H2 lo2 hzz hM hF h_out => ?_)
  clear hzz
  replace h_cm := h_cm.kept hF 1 rfl (fsd (by omega))
  replace h_co := h_co.kept hF 28 rfl (fsd (by omega))
  refine v_goto X dL_sentenceByCases_9 15 (by decide) ?_
  refine v_iconst X dL_sentenceByCases_15 16 rfl ?_
  subst hQ; exact m_iret X hr hlk hM dL_sentenceByCases_16 rfl ⟨rfl, h_out⟩
set_option maxHeartbeats 4000000 in
set_option maxRecDepth 20000 in
theorem w_X9_sentenceByCases_0_t (l : Launch) (hl : l.stackTraces = false) (E : Nat → Nat → Nat) (x : Nat) (co : Nat → Int → Int) (hs : Int) (er : Int) (fa : Int) (ss : Int) (d : Int) (oa : Nat) (lg : Nat → Int64) (hO : OkC co) (gd : Rg d) (nk : ¬ (0 ≤ d ∧ d < 6)) : MuW l yL_sentenceByCases cL_sentenceByCases 4 (some .int) [(0, 9, 12, 13)] 8 1 6 E [] [.ref x, .int (zI d), .ref oa] (fun H => PR E x [(x, .inr (11, [.ref (x + 1), .ref (x + 29), .ref (x + 57), .ref (x + 85), .ref (x + 311), .ref (x + 314), .ref (x + 319), .ref (x + 332), .int (zI hs), .int (zI er), .int (zI fa), .int (zI ss)]))] H ∧ PR E (x + 1) (courtW E (x + 1) co) H ∧ PR E oa [(oa, .inl (E 102 4, 1, .inr (.inl lg)))] H) (fun rv H => rv = some (.int (zI 1))) := by
  refine MuW.start (own := RL) rfl (by decide +kernel) (Nat.le_of_ble_eq_true rfl) ?_
  intro p e s m below meth cd args Q hQ X hr hlk htab hM hPr
  obtain ⟨h_cm, h_co, h_out⟩ := hPr
  refine v_aload_n X dL_sentenceByCases_0 1 rfl 2 rfl ?_
  refine v_iconst X dL_sentenceByCases_1 2 rfl ?_
  refine v_aload_n X dL_sentenceByCases_2 3 rfl 0 rfl ?_
  refine v_iload_n X dL_sentenceByCases_3 4 rfl 1 rfl ?_
  have hht : HT RL "java/lang/IllegalArgumentException" s [(0, 9, 12, 13)] 4 0 12 := ⟨(0, 9, 12, 13), rfl, rfl, by decide, by decide, xl_L_13, xc_IAE, by
    intro i z hi hz
    omega⟩
  refine v_txC X htab hM (h_cm.1) (x_X9_sentenceByCases_0 l hl E x co hs er fa ss d hO gd nk) kvX9_sentenceByCases kiX9_sentenceByCases kl_L_132 (q0 := 0) rfl rfl (As := [.int (zI d)]) rfl rfl rfl dL_sentenceByCases_4 0 12 hht (k' := 1) (n' := 6) rfl rfl (fun q hq => hq.elim) ⟨h_cm, h_co⟩ (fun q9 H1 lo1 hM hF hpo => ?_)
  replace h_cm := h_cm.kept hF 1 rfl (fun q _ _ h => h.elim)
  replace h_co := h_co.kept hF 28 rfl (fun q _ _ h => h.elim)
  replace h_out := h_out.kept hF 1 rfl (fun q _ _ h => h.elim)
  show V p l e (rmL 8 1 6) s m args below meth cd Q 4 H1 lo1 1 6 12 [(0, .ref x), (1, .int (zI d)), (2, .ref oa)] [.ref q9]
  refine v_astore_n X dL_sentenceByCases_12 13 rfl rfl (by decide) (L' := [(3, .ref q9), (0, .ref x), (1, .int (zI d)), (2, .ref oa)]) rfl ?_
  refine v_iconst X dL_sentenceByCases_13 14 rfl ?_
  subst hQ; exact m_iret X hr hlk hM dL_sentenceByCases_14 rfl rfl
set_option maxHeartbeats 4000000 in
set_option maxRecDepth 20000 in
theorem w_X9_docketPosition (l : Launch) (hl : l.stackTraces = false) (E : Nat → Nat → Nat) (x : Nat) (co : Nat → Int → Int) (hs : Int) (er : Int) (fa : Int) (ss : Int) (k : Int) (oa : Nat) (lg : Nat → Int64) (hO : OkC co) (gk : Rg k) (k0 : 0 ≤ k ∧ k < co 0 0) (k1 : co 3 k = 0) (hd_cm_out : x + 1 ≤ oa ∨ oa + 1 ≤ x) (hd_co_out : x + 1 + 28 ≤ oa ∨ oa + 1 ≤ x + 1) : MuW l yL_docketPosition cL_docketPosition 4 (some .int) [(0, 9, 12, 25), (0, 9, 15, 15)] 4 1 6 E [(oa, 1)] [.ref x, .int (zI k), .ref oa] (fun H => PR E x [(x, .inr (11, [.ref (x + 1), .ref (x + 29), .ref (x + 57), .ref (x + 85), .ref (x + 311), .ref (x + 314), .ref (x + 319), .ref (x + 332), .int (zI hs), .int (zI er), .int (zI fa), .int (zI ss)]))] H ∧ PR E (x + 1) (courtW E (x + 1) co) H ∧ PR E oa [(oa, .inl (E 102 4, 1, .inr (.inl lg)))] H) (fun rv H => rv = some (.int (zI 0)) ∧ (PR E oa [(oa, .inl (E 102 4, 1, .inr (.inl (fun _ => zL (sumZ (fun j => bz (co 3 j = 0 ∧ cbC co j k)) (co 0 0).toNat)))))] H)) := by
  refine MuW.start (own := RL) rfl (by decide +kernel) (Nat.le_of_ble_eq_true rfl) ?_
  intro p e s m below meth cd args Q hQ X hr hlk htab hM hPr
  obtain ⟨h_cm, h_co, h_out⟩ := hPr
  refine v_aload_n X dL_docketPosition_0 1 rfl 2 rfl ?_
  refine v_iconst X dL_docketPosition_1 2 rfl ?_
  refine v_aload_n X dL_docketPosition_2 3 rfl 0 rfl ?_
  refine v_iload_n X dL_docketPosition_3 4 rfl 1 rfl ?_
  refine v_rdV X hM.C (PW.app h_cm.1 h_co.1) (c_X9_docketPosition l E x co hs er fa ss k hO gk k0 k1) kvX9_docketPosition kiX9_docketPosition kl_L_138 rfl rfl (As := [.int (zI k)]) rfl rfl rfl dL_docketPosition_4 7 rfl ?_
  show V p l e (rmL 4 1 6) s m args below meth cd Q 4 s.heap [] 0 0 7 [(0, .ref x), (1, .int (zI k)), (2, .ref oa)] [.int (zI (sumZ (fun j => bz (co 3 j = 0 ∧ cbC co j k)) (co 0 0).toNat)), .int (zI 0), .ref oa]
  have hb_1 := hO.b0
  refine v_i2l X dL_docketPosition_7 8 rfl ?_
  refine v_last X hM h_out 0 rfl (Or.inl (fsH (by omega) (by omega))) dL_docketPosition_8 9 rfl (ws' := [(oa, .inl (E 102 4, 1, .inr (.inl (fun _ => zL (sumZ (fun j => bz (co 3 j = 0 ∧ cbC co j k)) (co 0 0).toNat)))))]) rfl (fun H2 lo2 hzz hM hF h_out => ?_)
  clear hzz
  replace h_cm := h_cm.kept hF 1 rfl (fsd (by omega))
  replace h_co := h_co.kept hF 28 rfl (fsd (by omega))
  refine v_goto X dL_docketPosition_9 18 (by decide) ?_
  refine v_iconst X dL_docketPosition_18 19 rfl ?_
  subst hQ; exact m_iret X hr hlk hM dL_docketPosition_19 rfl ⟨rfl, h_out⟩
set_option maxHeartbeats 4000000 in
set_option maxRecDepth 20000 in
theorem w_X9_docketPosition_0_t (l : Launch) (hl : l.stackTraces = false) (E : Nat → Nat → Nat) (x : Nat) (co : Nat → Int → Int) (hs : Int) (er : Int) (fa : Int) (ss : Int) (k : Int) (oa : Nat) (lg : Nat → Int64) (hO : OkC co) (gk : Rg k) (nk : ¬ (0 ≤ k ∧ k < co 0 0)) : MuW l yL_docketPosition cL_docketPosition 4 (some .int) [(0, 9, 12, 25), (0, 9, 15, 15)] 8 1 6 E [] [.ref x, .int (zI k), .ref oa] (fun H => PR E x [(x, .inr (11, [.ref (x + 1), .ref (x + 29), .ref (x + 57), .ref (x + 85), .ref (x + 311), .ref (x + 314), .ref (x + 319), .ref (x + 332), .int (zI hs), .int (zI er), .int (zI fa), .int (zI ss)]))] H ∧ PR E (x + 1) (courtW E (x + 1) co) H ∧ PR E oa [(oa, .inl (E 102 4, 1, .inr (.inl lg)))] H) (fun rv H => rv = some (.int (zI 1))) := by
  refine MuW.start (own := RL) rfl (by decide +kernel) (Nat.le_of_ble_eq_true rfl) ?_
  intro p e s m below meth cd args Q hQ X hr hlk htab hM hPr
  obtain ⟨h_cm, h_co, h_out⟩ := hPr
  refine v_aload_n X dL_docketPosition_0 1 rfl 2 rfl ?_
  refine v_iconst X dL_docketPosition_1 2 rfl ?_
  refine v_aload_n X dL_docketPosition_2 3 rfl 0 rfl ?_
  refine v_iload_n X dL_docketPosition_3 4 rfl 1 rfl ?_
  have hht : HT RL "java/lang/IndexOutOfBoundsException" s [(0, 9, 12, 25), (0, 9, 15, 15)] 4 0 12 := ⟨(0, 9, 12, 25), rfl, rfl, by decide, by decide, xl_L_25, xc_IOB, by
    intro i z hi hz
    omega⟩
  refine v_txC X htab hM (h_cm.1) (x_X9_docketPosition_0 l hl E x co hs er fa ss k hO gk nk) kvX9_docketPosition kiX9_docketPosition kl_L_138 (q0 := 0) rfl rfl (As := [.int (zI k)]) rfl rfl rfl dL_docketPosition_4 0 12 hht (k' := 1) (n' := 6) rfl rfl (fun q hq => hq.elim) ⟨h_cm, h_co⟩ (fun q9 H1 lo1 hM hF hpo => ?_)
  replace h_cm := h_cm.kept hF 1 rfl (fun q _ _ h => h.elim)
  replace h_co := h_co.kept hF 28 rfl (fun q _ _ h => h.elim)
  replace h_out := h_out.kept hF 1 rfl (fun q _ _ h => h.elim)
  show V p l e (rmL 8 1 6) s m args below meth cd Q 4 H1 lo1 1 6 12 [(0, .ref x), (1, .int (zI k)), (2, .ref oa)] [.ref q9]
  refine v_astore_n X dL_docketPosition_12 13 rfl rfl (by decide) (L' := [(3, .ref q9), (0, .ref x), (1, .int (zI k)), (2, .ref oa)]) rfl ?_
  refine v_iconst X dL_docketPosition_13 14 rfl ?_
  subst hQ; exact m_iret X hr hlk hM dL_docketPosition_14 rfl rfl
set_option maxHeartbeats 4000000 in
set_option maxRecDepth 20000 in
theorem w_X9_docketPosition_1_t (l : Launch) (hl : l.stackTraces = false) (E : Nat → Nat → Nat) (x : Nat) (co : Nat → Int → Int) (hs : Int) (er : Int) (fa : Int) (ss : Int) (k : Int) (oa : Nat) (lg : Nat → Int64) (hO : OkC co) (gk : Rg k) (k0 : 0 ≤ k ∧ k < co 0 0) (nk : ¬ (co 3 k = 0)) : MuW l yL_docketPosition cL_docketPosition 4 (some .int) [(0, 9, 12, 25), (0, 9, 15, 15)] 7 1 6 E [] [.ref x, .int (zI k), .ref oa] (fun H => PR E x [(x, .inr (11, [.ref (x + 1), .ref (x + 29), .ref (x + 57), .ref (x + 85), .ref (x + 311), .ref (x + 314), .ref (x + 319), .ref (x + 332), .int (zI hs), .int (zI er), .int (zI fa), .int (zI ss)]))] H ∧ PR E (x + 1) (courtW E (x + 1) co) H ∧ PR E oa [(oa, .inl (E 102 4, 1, .inr (.inl lg)))] H) (fun rv H => rv = some (.int (zI 2))) := by
  refine MuW.start (own := RL) rfl (by decide +kernel) (Nat.le_of_ble_eq_true rfl) ?_
  intro p e s m below meth cd args Q hQ X hr hlk htab hM hPr
  obtain ⟨h_cm, h_co, h_out⟩ := hPr
  refine v_aload_n X dL_docketPosition_0 1 rfl 2 rfl ?_
  refine v_iconst X dL_docketPosition_1 2 rfl ?_
  refine v_aload_n X dL_docketPosition_2 3 rfl 0 rfl ?_
  refine v_iload_n X dL_docketPosition_3 4 rfl 1 rfl ?_
  have hht : HT RL "java/lang/IllegalStateException" s [(0, 9, 12, 25), (0, 9, 15, 15)] 4 1 15 := ⟨(0, 9, 15, 15), rfl, rfl, by decide, by decide, xl_L_15, xc_ISE, by
    intro i z hi hz
    rcases (show i = 0 by omega) with rfl
    · cases hz; exact ⟨by decide, _, xl_L_25, hM.C.2.2.2.2.2.2.1 1 2 _ _ (by decide) rfl rfl⟩⟩
  refine v_txC X htab hM (h_cm.1) (x_X9_docketPosition_1 l hl E x co hs er fa ss k hO gk k0 nk) kvX9_docketPosition kiX9_docketPosition kl_L_138 (q0 := 0) rfl rfl (As := [.int (zI k)]) rfl rfl rfl dL_docketPosition_4 1 15 hht (k' := 1) (n' := 6) rfl rfl (fun q hq => hq.elim) ⟨h_cm, h_co⟩ (fun q9 H1 lo1 hM hF hpo => ?_)
  replace h_cm := h_cm.kept hF 1 rfl (fun q _ _ h => h.elim)
  replace h_co := h_co.kept hF 28 rfl (fun q _ _ h => h.elim)
  replace h_out := h_out.kept hF 1 rfl (fun q _ _ h => h.elim)
  show V p l e (rmL 7 1 6) s m args below meth cd Q 4 H1 lo1 1 6 15 [(0, .ref x), (1, .int (zI k)), (2, .ref oa)] [.ref q9]
  refine v_astore_n X dL_docketPosition_15 16 rfl rfl (by decide) (L' := [(3, .ref q9), (0, .ref x), (1, .int (zI k)), (2, .ref oa)]) rfl ?_
  refine v_iconst X dL_docketPosition_16 17 rfl ?_
  subst hQ; exact m_iret X hr hlk hM dL_docketPosition_17 rfl rfl
set_option maxHeartbeats 4000000 in
set_option maxRecDepth 20000 in
theorem w_X9_errorPosition (l : Launch) (hl : l.stackTraces = false) (E : Nat → Nat → Nat) (x : Nat) (co : Nat → Int → Int) (hs : Int) (er : Int) (fa : Int) (ss : Int) (oa : Nat) (lg : Nat → Int64) (hO : OkC co) (k0 : ¬ er = -1) (ger : Rg er) (hd_cm_out : x + 1 ≤ oa ∨ oa + 1 ≤ x) (hd_co_out : x + 1 + 28 ≤ oa ∨ oa + 1 ≤ x + 1) : MuW l yL_errorPosition cL_errorPosition 3 (some .int) [(0, 8, 11, 31)] 1 1 6 E [(oa, 1)] [.ref x, .ref oa] (fun H => PR E x [(x, .inr (11, [.ref (x + 1), .ref (x + 29), .ref (x + 57), .ref (x + 85), .ref (x + 311), .ref (x + 314), .ref (x + 319), .ref (x + 332), .int (zI hs), .int (zI er), .int (zI fa), .int (zI ss)]))] H ∧ PR E (x + 1) (courtW E (x + 1) co) H ∧ PR E oa [(oa, .inl (E 102 4, 1, .inr (.inl lg)))] H) (fun rv H => rv = some (.int (zI 0)) ∧ PR E oa [(oa, .inl (E 102 4, 1, .inr (.inl (fun _ => zL er))))] H) := by
  refine MuW.start (own := RL) rfl (by decide +kernel) (Nat.le_of_ble_eq_true rfl) ?_
  intro p e s m below meth cd args Q hQ X hr hlk htab hM hPr
  obtain ⟨h_cm, h_co, h_out⟩ := hPr
  refine v_aload_n X dL_errorPosition_0 1 rfl 1 rfl ?_
  refine v_iconst X dL_errorPosition_1 2 rfl ?_
  refine v_aload_n X dL_errorPosition_2 3 rfl 0 rfl ?_
  refine v_rdV X hM.C (PW.app h_cm.1 h_co.1) (c_X9_errorPosition l E x co hs er fa ss hO k0 ger) kvX9_errorPosition kiX9_errorPosition kl_L_170 rfl rfl (As := []) rfl rfl rfl dL_errorPosition_3 6 rfl ?_
  show V p l e (rmL 1 1 6) s m args below meth cd Q 3 s.heap [] 0 0 6 [(0, .ref x), (1, .ref oa)] [.int (zI er), .int (zI 0), .ref oa]
  refine v_i2l X dL_errorPosition_6 7 rfl ?_
  refine v_last X hM h_out 0 rfl (Or.inl (fsH (by omega) (by omega))) dL_errorPosition_7 8 rfl (ws' := [(oa, .inl (E 102 4, 1, .inr (.inl (fun _ => zL er))))]) rfl (fun H1 lo1 hzz hM hF h_out => ?_)
  clear hzz
  replace h_cm := h_cm.kept hF 1 rfl (fsd (by omega))
  replace h_co := h_co.kept hF 28 rfl (fsd (by omega))
  refine v_goto X dL_errorPosition_8 14 (by decide) ?_
  refine v_iconst X dL_errorPosition_14 15 rfl ?_
  subst hQ; exact m_iret X hr hlk hM dL_errorPosition_15 rfl ⟨rfl, h_out⟩
set_option maxHeartbeats 4000000 in
set_option maxRecDepth 20000 in
theorem w_X9_errorPosition_0_t (l : Launch) (hl : l.stackTraces = false) (E : Nat → Nat → Nat) (x : Nat) (co : Nat → Int → Int) (hs : Int) (er : Int) (fa : Int) (ss : Int) (oa : Nat) (lg : Nat → Int64) (hO : OkC co) (nk : ¬ (¬ er = -1)) (ger : Rg er) : MuW l yL_errorPosition cL_errorPosition 3 (some .int) [(0, 8, 11, 31)] 7 1 6 E [] [.ref x, .ref oa] (fun H => PR E x [(x, .inr (11, [.ref (x + 1), .ref (x + 29), .ref (x + 57), .ref (x + 85), .ref (x + 311), .ref (x + 314), .ref (x + 319), .ref (x + 332), .int (zI hs), .int (zI er), .int (zI fa), .int (zI ss)]))] H ∧ PR E (x + 1) (courtW E (x + 1) co) H ∧ PR E oa [(oa, .inl (E 102 4, 1, .inr (.inl lg)))] H) (fun rv H => rv = some (.int (zI 1))) := by
  refine MuW.start (own := RL) rfl (by decide +kernel) (Nat.le_of_ble_eq_true rfl) ?_
  intro p e s m below meth cd args Q hQ X hr hlk htab hM hPr
  obtain ⟨h_cm, h_co, h_out⟩ := hPr
  refine v_aload_n X dL_errorPosition_0 1 rfl 1 rfl ?_
  refine v_iconst X dL_errorPosition_1 2 rfl ?_
  refine v_aload_n X dL_errorPosition_2 3 rfl 0 rfl ?_
  have hht : HT RL "java/util/NoSuchElementException" s [(0, 8, 11, 31)] 3 0 11 := ⟨(0, 8, 11, 31), rfl, rfl, by decide, by decide, xl_L_31, xc_NSE, by
    intro i z hi hz
    omega⟩
  refine v_txC X htab hM (h_cm.1) (x_X9_errorPosition_0 l hl E x co hs er fa ss hO nk ger) kvX9_errorPosition kiX9_errorPosition kl_L_170 (q0 := 0) rfl rfl (As := []) rfl rfl rfl dL_errorPosition_3 0 11 hht (k' := 1) (n' := 6) rfl rfl (fun q hq => hq.elim) ⟨h_cm, h_co⟩ (fun q9 H1 lo1 hM hF hpo => ?_)
  replace h_cm := h_cm.kept hF 1 rfl (fun q _ _ h => h.elim)
  replace h_co := h_co.kept hF 28 rfl (fun q _ _ h => h.elim)
  replace h_out := h_out.kept hF 1 rfl (fun q _ _ h => h.elim)
  show V p l e (rmL 7 1 6) s m args below meth cd Q 3 H1 lo1 1 6 11 [(0, .ref x), (1, .ref oa)] [.ref q9]
  refine v_astore_n X dL_errorPosition_11 12 rfl rfl (by decide) (L' := [(2, .ref q9), (0, .ref x), (1, .ref oa)]) rfl ?_
  refine v_iconst X dL_errorPosition_12 13 rfl ?_
  subst hQ; exact m_iret X hr hlk hM dL_errorPosition_13 rfl rfl
set_option maxHeartbeats 4000000 in
set_option maxRecDepth 20000 in
theorem w_X9_failedCommand (l : Launch) (hl : l.stackTraces = false) (E : Nat → Nat → Nat) (x : Nat) (co : Nat → Int → Int) (hs : Int) (er : Int) (fa : Int) (ss : Int) (oa : Nat) (lg : Nat → Int64) (hO : OkC co) (k0 : ¬ fa = -1) (gfa : Rg fa) (hd_cm_out : x + 1 ≤ oa ∨ oa + 1 ≤ x) (hd_co_out : x + 1 + 28 ≤ oa ∨ oa + 1 ≤ x + 1) : MuW l yL_failedCommand cL_failedCommand 3 (some .int) [(0, 8, 11, 31)] 2 1 6 E [(oa, 1)] [.ref x, .ref oa] (fun H => PR E x [(x, .inr (11, [.ref (x + 1), .ref (x + 29), .ref (x + 57), .ref (x + 85), .ref (x + 311), .ref (x + 314), .ref (x + 319), .ref (x + 332), .int (zI hs), .int (zI er), .int (zI fa), .int (zI ss)]))] H ∧ PR E (x + 1) (courtW E (x + 1) co) H ∧ PR E oa [(oa, .inl (E 102 4, 1, .inr (.inl lg)))] H) (fun rv H => rv = some (.int (zI 0)) ∧ PR E oa [(oa, .inl (E 102 4, 1, .inr (.inl (fun _ => zL fa))))] H) := by
  refine MuW.start (own := RL) rfl (by decide +kernel) (Nat.le_of_ble_eq_true rfl) ?_
  intro p e s m below meth cd args Q hQ X hr hlk htab hM hPr
  obtain ⟨h_cm, h_co, h_out⟩ := hPr
  refine v_aload_n X dL_failedCommand_0 1 rfl 1 rfl ?_
  refine v_iconst X dL_failedCommand_1 2 rfl ?_
  refine v_aload_n X dL_failedCommand_2 3 rfl 0 rfl ?_
  refine v_rdV X hM.C (PW.app h_cm.1 h_co.1) (c_X9_failedCommand l E x co hs er fa ss hO k0 gfa) kvX9_failedCommand kiX9_failedCommand kl_L_173 rfl rfl (As := []) rfl rfl rfl dL_failedCommand_3 6 rfl ?_
  show V p l e (rmL 2 1 6) s m args below meth cd Q 3 s.heap [] 0 0 6 [(0, .ref x), (1, .ref oa)] [.int (zI fa), .int (zI 0), .ref oa]
  refine v_i2l X dL_failedCommand_6 7 rfl ?_
  refine v_last X hM h_out 0 rfl (Or.inl (fsH (by omega) (by omega))) dL_failedCommand_7 8 rfl (ws' := [(oa, .inl (E 102 4, 1, .inr (.inl (fun _ => zL fa))))]) rfl (fun H1 lo1 hzz hM hF h_out => ?_)
  clear hzz
  replace h_cm := h_cm.kept hF 1 rfl (fsd (by omega))
  replace h_co := h_co.kept hF 28 rfl (fsd (by omega))
  refine v_goto X dL_failedCommand_8 14 (by decide) ?_
  refine v_iconst X dL_failedCommand_14 15 rfl ?_
  subst hQ; exact m_iret X hr hlk hM dL_failedCommand_15 rfl ⟨rfl, h_out⟩
set_option maxHeartbeats 4000000 in
set_option maxRecDepth 20000 in
theorem w_X9_failedCommand_0_t (l : Launch) (hl : l.stackTraces = false) (E : Nat → Nat → Nat) (x : Nat) (co : Nat → Int → Int) (hs : Int) (er : Int) (fa : Int) (ss : Int) (oa : Nat) (lg : Nat → Int64) (hO : OkC co) (nk : ¬ (¬ fa = -1)) (gfa : Rg fa) : MuW l yL_failedCommand cL_failedCommand 3 (some .int) [(0, 8, 11, 31)] 8 1 6 E [] [.ref x, .ref oa] (fun H => PR E x [(x, .inr (11, [.ref (x + 1), .ref (x + 29), .ref (x + 57), .ref (x + 85), .ref (x + 311), .ref (x + 314), .ref (x + 319), .ref (x + 332), .int (zI hs), .int (zI er), .int (zI fa), .int (zI ss)]))] H ∧ PR E (x + 1) (courtW E (x + 1) co) H ∧ PR E oa [(oa, .inl (E 102 4, 1, .inr (.inl lg)))] H) (fun rv H => rv = some (.int (zI 1))) := by
  refine MuW.start (own := RL) rfl (by decide +kernel) (Nat.le_of_ble_eq_true rfl) ?_
  intro p e s m below meth cd args Q hQ X hr hlk htab hM hPr
  obtain ⟨h_cm, h_co, h_out⟩ := hPr
  refine v_aload_n X dL_failedCommand_0 1 rfl 1 rfl ?_
  refine v_iconst X dL_failedCommand_1 2 rfl ?_
  refine v_aload_n X dL_failedCommand_2 3 rfl 0 rfl ?_
  have hht : HT RL "java/util/NoSuchElementException" s [(0, 8, 11, 31)] 3 0 11 := ⟨(0, 8, 11, 31), rfl, rfl, by decide, by decide, xl_L_31, xc_NSE, by
    intro i z hi hz
    omega⟩
  refine v_txC X htab hM (h_cm.1) (x_X9_failedCommand_0 l hl E x co hs er fa ss hO nk gfa) kvX9_failedCommand kiX9_failedCommand kl_L_173 (q0 := 0) rfl rfl (As := []) rfl rfl rfl dL_failedCommand_3 0 11 hht (k' := 1) (n' := 6) rfl rfl (fun q hq => hq.elim) ⟨h_cm, h_co⟩ (fun q9 H1 lo1 hM hF hpo => ?_)
  replace h_cm := h_cm.kept hF 1 rfl (fun q _ _ h => h.elim)
  replace h_co := h_co.kept hF 28 rfl (fun q _ _ h => h.elim)
  replace h_out := h_out.kept hF 1 rfl (fun q _ _ h => h.elim)
  show V p l e (rmL 8 1 6) s m args below meth cd Q 3 H1 lo1 1 6 11 [(0, .ref x), (1, .ref oa)] [.ref q9]
  refine v_astore_n X dL_failedCommand_11 12 rfl rfl (by decide) (L' := [(2, .ref q9), (0, .ref x), (1, .ref oa)]) rfl ?_
  refine v_iconst X dL_failedCommand_12 13 rfl ?_
  subst hQ; exact m_iret X hr hlk hM dL_failedCommand_13 rfl rfl
set_option maxHeartbeats 4000000 in
set_option maxRecDepth 20000 in
theorem w_X9_isFailureOfState (l : Launch) (hl : l.stackTraces = false) (E : Nat → Nat → Nat) (x : Nat) (co : Nat → Int → Int) (hs : Int) (er : Int) (fa : Int) (ss : Int) (oa : Nat) (lg : Nat → Int64) (hO : OkC co) (k0 : ¬ fa = -1) (gfa : Rg fa) (gss : ss = 0 ∨ ss = 1) (hd_cm_out : x + 1 ≤ oa ∨ oa + 1 ≤ x) (hd_co_out : x + 1 + 28 ≤ oa ∨ oa + 1 ≤ x + 1) : MuW l yL_isFailureOfState cL_isFailureOfState 3 (some .int) [(0, 15, 18, 31)] 2 1 6 E [(oa, 1)] [.ref x, .ref oa] (fun H => PR E x [(x, .inr (11, [.ref (x + 1), .ref (x + 29), .ref (x + 57), .ref (x + 85), .ref (x + 311), .ref (x + 314), .ref (x + 319), .ref (x + 332), .int (zI hs), .int (zI er), .int (zI fa), .int (zI ss)]))] H ∧ PR E (x + 1) (courtW E (x + 1) co) H ∧ PR E oa [(oa, .inl (E 102 4, 1, .inr (.inl lg)))] H) (fun rv H => rv = some (.int (zI 0)) ∧ PR E oa [(oa, .inl (E 102 4, 1, .inr (.inl (fun _ => zL (bz (ss = 1))))))] H) := by
  refine MuW.start (own := RL) rfl (by decide +kernel) (Nat.le_of_ble_eq_true rfl) ?_
  intro p e s m below meth cd args Q hQ X hr hlk htab hM hPr
  obtain ⟨h_cm, h_co, h_out⟩ := hPr
  refine v_aload_n X dL_isFailureOfState_0 1 rfl 1 rfl ?_
  refine v_iconst X dL_isFailureOfState_1 2 rfl ?_
  refine v_aload_n X dL_isFailureOfState_2 3 rfl 0 rfl ?_
  refine v_rdV X hM.C (PW.app h_cm.1 h_co.1) (c_X9_isFailureOfState l E x co hs er fa ss hO k0 gfa gss) kvX9_isFailureOfState kiX9_isFailureOfState kl_L_176 rfl rfl (As := []) rfl rfl rfl dL_isFailureOfState_3 6 rfl ?_
  show V p l e (rmL 2 1 6) s m args below meth cd Q 3 s.heap [] 0 0 6 [(0, .ref x), (1, .ref oa)] [.int (zI (bz (ss = 1))), .int (zI 0), .ref oa]
  refine v_bif_eq X dL_isFailureOfState_6 9 13 rfl (by decide) (fun c_1 => ?_) (fun c_1 => ?_)
  · skip
    refine v_lconst 0 X dL_isFailureOfState_13 rfl 14 rfl ?_
    refine v_last X hM h_out 0 rfl (Or.inl (fsH (by omega) (by omega))) dL_isFailureOfState_14 15 rfl (ws' := [(oa, .inl (E 102 4, 1, .inr (.inl (fun _ => zL 0))))]) rfl (fun H2 lo2 hzz hM hF h_out => ?_)
    clear hzz
    replace h_cm := h_cm.kept hF 1 rfl (fsd (by omega))
    replace h_co := h_co.kept hF 28 rfl (fsd (by omega))
    refine v_goto X dL_isFailureOfState_15 21 (by decide) ?_
    refine v_iconst X dL_isFailureOfState_21 22 rfl ?_
    subst hQ; exact m_iret X hr hlk hM dL_isFailureOfState_22 rfl ⟨rfl, (PR.to h_out (by first | rw [bz_t (φ := ss = 1) (by assumption)] | rw [bz_f (φ := ss = 1) (by assumption)]))⟩
  · skip
    refine v_lconst 1 X dL_isFailureOfState_9 rfl 10 rfl ?_
    refine v_goto X dL_isFailureOfState_10 14 (by decide) ?_
    refine v_last X hM h_out 0 rfl (Or.inl (fsH (by omega) (by omega))) dL_isFailureOfState_14 15 rfl (ws' := [(oa, .inl (E 102 4, 1, .inr (.inl (fun _ => zL 1))))]) rfl (fun H3 lo3 hzz hM hF h_out => ?_)
    clear hzz
    replace h_cm := h_cm.kept hF 1 rfl (fsd (by omega))
    replace h_co := h_co.kept hF 28 rfl (fsd (by omega))
    refine v_goto X dL_isFailureOfState_15 21 (by decide) ?_
    refine v_iconst X dL_isFailureOfState_21 22 rfl ?_
    subst hQ; exact m_iret X hr hlk hM dL_isFailureOfState_22 rfl ⟨rfl, (PR.to h_out (by first | rw [bz_t (φ := ss = 1) (by assumption)] | rw [bz_f (φ := ss = 1) (by assumption)]))⟩
set_option maxHeartbeats 4000000 in
set_option maxRecDepth 20000 in
theorem w_X9_isFailureOfState_0_t (l : Launch) (hl : l.stackTraces = false) (E : Nat → Nat → Nat) (x : Nat) (co : Nat → Int → Int) (hs : Int) (er : Int) (fa : Int) (ss : Int) (oa : Nat) (lg : Nat → Int64) (hO : OkC co) (nk : ¬ (¬ fa = -1)) (gfa : Rg fa) (gss : ss = 0 ∨ ss = 1) : MuW l yL_isFailureOfState cL_isFailureOfState 3 (some .int) [(0, 15, 18, 31)] 8 1 6 E [] [.ref x, .ref oa] (fun H => PR E x [(x, .inr (11, [.ref (x + 1), .ref (x + 29), .ref (x + 57), .ref (x + 85), .ref (x + 311), .ref (x + 314), .ref (x + 319), .ref (x + 332), .int (zI hs), .int (zI er), .int (zI fa), .int (zI ss)]))] H ∧ PR E (x + 1) (courtW E (x + 1) co) H ∧ PR E oa [(oa, .inl (E 102 4, 1, .inr (.inl lg)))] H) (fun rv H => rv = some (.int (zI 1))) := by
  refine MuW.start (own := RL) rfl (by decide +kernel) (Nat.le_of_ble_eq_true rfl) ?_
  intro p e s m below meth cd args Q hQ X hr hlk htab hM hPr
  obtain ⟨h_cm, h_co, h_out⟩ := hPr
  refine v_aload_n X dL_isFailureOfState_0 1 rfl 1 rfl ?_
  refine v_iconst X dL_isFailureOfState_1 2 rfl ?_
  refine v_aload_n X dL_isFailureOfState_2 3 rfl 0 rfl ?_
  have hht : HT RL "java/util/NoSuchElementException" s [(0, 15, 18, 31)] 3 0 18 := ⟨(0, 15, 18, 31), rfl, rfl, by decide, by decide, xl_L_31, xc_NSE, by
    intro i z hi hz
    omega⟩
  refine v_txC X htab hM (h_cm.1) (x_X9_isFailureOfState_0 l hl E x co hs er fa ss hO nk gfa gss) kvX9_isFailureOfState kiX9_isFailureOfState kl_L_176 (q0 := 0) rfl rfl (As := []) rfl rfl rfl dL_isFailureOfState_3 0 18 hht (k' := 1) (n' := 6) rfl rfl (fun q hq => hq.elim) ⟨h_cm, h_co⟩ (fun q9 H1 lo1 hM hF hpo => ?_)
  replace h_cm := h_cm.kept hF 1 rfl (fun q _ _ h => h.elim)
  replace h_co := h_co.kept hF 28 rfl (fun q _ _ h => h.elim)
  replace h_out := h_out.kept hF 1 rfl (fun q _ _ h => h.elim)
  show V p l e (rmL 8 1 6) s m args below meth cd Q 3 H1 lo1 1 6 18 [(0, .ref x), (1, .ref oa)] [.ref q9]
  refine v_astore_n X dL_isFailureOfState_18 19 rfl rfl (by decide) (L' := [(2, .ref q9), (0, .ref x), (1, .ref oa)]) rfl ?_
  refine v_iconst X dL_isFailureOfState_19 20 rfl ?_
  subst hQ; exact m_iret X hr hlk hM dL_isFailureOfState_20 rfl rfl
