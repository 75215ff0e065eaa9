section LAWOPS
variable {p : Program} {l : Launch} {e : Env} {s : State} {m : MethodId} {args : Array Value} {below : List Frame} {meth : Method} {cd : Code} {Q : State → Prop} {H : Heap} {lo : List Loc} {kq nq : Nat} {E : Nat → Nat → Nat} {b Lx x : Nat} {xs : Nat → Int32} {i : Int}
set_option maxHeartbeats 4000000 in
set_option maxRecDepth 20000 in
theorem lo_caseCount (hl : l.stackTraces = false) (X : CF p m cd code 9 s args RL) (hX : va_X b Lx xs s s.heap) (hbl : b < s.heap.size) (hLx : Lx ≤ 2560) (hM : MS E [] s H lo) (hk : kq + 60 ≤ 603072) (hn : nq + 4000 ≤ 7211113) (hx : s.heap.size ≤ x) (hzl : x + 341 ≤ H.size) {v : Nat} {N : Nat} {f : Int → Int} {nn : Int} {v2 : Nat} {N2 : Nat} {f2 : Int → Int} {n2 : Int} {co : Nat → Int → Int} {bf : Nat → Int → Int} {cv : Nat → Int → Int} {hc : Nat → Nat → Int → Int} {nx : Int} {sz : Int} {hs : Int} {er : Int} {fa : Int} {ss : Int} {dk : Nat → Int → Int} {se : Nat → Int → Int} {po : Int} {si : Int} {pr : Nat → Int → Int} {ml : Int} {ml2 : Int} {mo : Nat → Int → Int} {lg : Nat → Int64} {dg : Nat → UInt64} (hW : LawW E x v N f nn v2 N2 f2 n2 co bf cv hc nx sz hs er fa ss dk se po si pr ml ml2 mo lg dg H) (hP : LawP x v N f nn v2 N2 f2 n2 co cv hc nx sz hs er fa ss po si pr mo) (i0 : 0 ≤ i) (i1 : i + 5 ≤ (Lx : Int)) (kk : ∀ (H1 : Heap) (lo1 : List Loc), MS E [] s H1 lo1 → LawI E x H1 → V p l e room_1 s m args below meth cd Q 9 H1 lo1 (kq + 60) (nq + 4000) 3555 [(5, .int (zI i)), (4, .ref (x + 340)), (3, .ref (x + 339)), (2, .ref (x + 334)), (1, .ref x), (0, .ref b)] []) : V p l e room_1 s m args below meth cd Q 9 H lo kq nq 815 [(5, .int (zI i)), (4, .ref (x + 340)), (3, .ref (x + 339)), (2, .ref (x + 334)), (1, .ref x), (0, .ref b)] [] := by
  obtain ⟨h_cm, h_co, h_bf, h_sv, h_hi, h_hf, h_dk, h_se, h_pg, h_sb, h_sa, h_pr, h_ln, h_la, h_mo, h_out, h_outD⟩ := hW
  have hP0 := hP
  obtain ⟨⟨hD, hDv, hDh⟩, ⟨hRM, hch, hcs⟩, ⟨⟨n0, n1⟩, ⟨s0, s1⟩, hhs⟩, ⟨hm8, hnn, hAg, hNN, hnN, hf9⟩, ⟨T, hSB, hLT, hn38⟩, hPB, ⟨her, hfa, hss, ger, gfa, gss, gms⟩, ⟨gpo, gsi⟩, ⟨hv1, hv2, hvv⟩⟩ := hP
  have hO := hD.inv.ok
  have hI := hD.inv.ts
  have hSt := hD.inv.st
  have hS := hD.inv.sn
  have hR := hRM.1.2
  have hG := gp_inv hD
  have hb0 := hO.b0
  have hbw := hO.bw
  have hbf : ¬ Fr [] s.heap.size b := fun z => z.elim (fun q => q.elim) (fun q => by omega)
  refine v_aload_n X dL_law_815 816 rfl 4 rfl ?_
  refine v_rdV X hM.C (PW.app h_cm.1 h_co.1) (c_X9_caseCount l E x co hs er fa ss hO) kvX9_caseCount kiX9_caseCount kl_L_220 rfl rfl (As := []) rfl rfl (rm_law0 rfl (by omega) (by omega)) dL_law_816 819 rfl ?_
  show V p l e room_1 s m args below meth cd Q 9 H lo kq nq 819 [(5, .int (zI i)), (4, .ref (x + 340)), (3, .ref (x + 339)), (2, .ref (x + 334)), (1, .ref x), (0, .ref b)] [.int (zI (co 0 0))]
  refine v_aload_n X dL_law_819 820 rfl 3 rfl ?_
  refine v_muV X hM (h_mo.1) (c_X10_caseCount l E (x + 334) mo co hO hR) kvX10_caseCount kiX10_caseCount kl_L_223 (q0 := 0) rfl rfl (As := []) rfl rfl (rm_law rfl (by omega) (by omega)) dL_law_820 823 rfl (k' := kq + 0) (n' := nq + 0) rfl rfl (fsI (fun q q1 q2 => (Or.inr (by omega)))) h_mo (fun rv H1 lo1 hM hF hpo => ?_)
  obtain ⟨rfl, hw_0⟩ := hpo
  have h_mo : PR E (x + 334) (modelW E (x + 334) (updC mo 0 (updZ (mo 0) 0 0))) H1 := hw_0
  replace hzl := Nat.le_trans hzl hF.1
  replace h_cm := h_cm.kept hF 1 rfl (fsd (by omega))
  replace h_co := h_co.kept hF 28 rfl (fsd (by omega))
  replace h_bf := h_bf.kept hF 28 rfl (fsd (by omega))
  replace h_sv := h_sv.kept hF 28 rfl (fsd (by omega))
  replace h_hi := h_hi.kept hF 2 rfl (fsd (by omega))
  replace h_hf := h_hf.kept hF (fsd (by omega))
  replace h_dk := h_dk.kept hF 3 rfl (fsd (by omega))
  replace h_se := h_se.kept hF 5 rfl (fsd (by omega))
  replace h_pg := h_pg.kept hF 1 rfl (fsd (by omega))
  replace h_sb := h_sb.kept hF 1 rfl (fsd (by omega))
  replace h_sa := h_sa.kept hF 1 rfl (fsd (by omega))
  replace h_pr := h_pr.kept hF 10 rfl (fsd (by omega))
  replace h_ln := h_ln.kept hF 1 rfl (fsd (by omega))
  replace h_la := h_la.kept hF 1 rfl (fsd (by omega))
  replace h_out := h_out.kept hF 1 rfl (fsd (by omega))
  replace h_outD := h_outD.kept hF 1 rfl (fsd (by omega))
  show V p l e room_1 s m args below meth cd Q 9 H1 lo1 kq nq 823 [(5, .int (zI i)), (4, .ref (x + 340)), (3, .ref (x + 339)), (2, .ref (x + 334)), (1, .ref x), (0, .ref b)] [.int (zI (co 0 0)), .int (zI (co 0 0))]
  refine v_icmp_same X dL_law_823 3555 (by decide) ?_
  refine v_widen (k' := kq + 60) (n' := nq + 4000) (by omega) (by omega) ?_
  exact V_pick [0, 1, 2, 3, 4, 5] rfl (kk _ _ hM ⟨hzl, _, _, _, _, _, _, _, _, _, _, _, _, _, _, _, _, _, _, _, _, _, _, _, _, _, _, _, _, ⟨h_cm, h_co, h_bf, h_sv, h_hi, h_hf, h_dk, h_se, h_pg, h_sb, h_sa, h_pr, h_ln, h_la, h_mo, h_out, h_outD⟩, hP0.mo_0⟩)
set_option maxHeartbeats 4000000 in
set_option maxRecDepth 20000 in
theorem lo_witnessCount (hl : l.stackTraces = false) (X : CF p m cd code 9 s args RL) (hX : va_X b Lx xs s s.heap) (hbl : b < s.heap.size) (hLx : Lx ≤ 2560) (hM : MS E [] s H lo) (hk : kq + 60 ≤ 603072) (hn : nq + 4000 ≤ 7211113) (hx : s.heap.size ≤ x) (hzl : x + 341 ≤ H.size) {v : Nat} {N : Nat} {f : Int → Int} {nn : Int} {v2 : Nat} {N2 : Nat} {f2 : Int → Int} {n2 : Int} {co : Nat → Int → Int} {bf : Nat → Int → Int} {cv : Nat → Int → Int} {hc : Nat → Nat → Int → Int} {nx : Int} {sz : Int} {hs : Int} {er : Int} {fa : Int} {ss : Int} {dk : Nat → Int → Int} {se : Nat → Int → Int} {po : Int} {si : Int} {pr : Nat → Int → Int} {ml : Int} {ml2 : Int} {mo : Nat → Int → Int} {lg : Nat → Int64} {dg : Nat → UInt64} (hW : LawW E x v N f nn v2 N2 f2 n2 co bf cv hc nx sz hs er fa ss dk se po si pr ml ml2 mo lg dg H) (hP : LawP x v N f nn v2 N2 f2 n2 co cv hc nx sz hs er fa ss po si pr mo) (i0 : 0 ≤ i) (i1 : i + 5 ≤ (Lx : Int)) (kk : ∀ (H1 : Heap) (lo1 : List Loc), MS E [] s H1 lo1 → LawI E x H1 → V p l e room_1 s m args below meth cd Q 9 H1 lo1 (kq + 60) (nq + 4000) 3555 [(5, .int (zI i)), (4, .ref (x + 340)), (3, .ref (x + 339)), (2, .ref (x + 334)), (1, .ref x), (0, .ref b)] []) : V p l e room_1 s m args below meth cd Q 9 H lo kq nq 1726 [(5, .int (zI i)), (4, .ref (x + 340)), (3, .ref (x + 339)), (2, .ref (x + 334)), (1, .ref x), (0, .ref b)] [] := by
  obtain ⟨h_cm, h_co, h_bf, h_sv, h_hi, h_hf, h_dk, h_se, h_pg, h_sb, h_sa, h_pr, h_ln, h_la, h_mo, h_out, h_outD⟩ := hW
  have hP0 := hP
  obtain ⟨⟨hD, hDv, hDh⟩, ⟨hRM, hch, hcs⟩, ⟨⟨n0, n1⟩, ⟨s0, s1⟩, hhs⟩, ⟨hm8, hnn, hAg, hNN, hnN, hf9⟩, ⟨T, hSB, hLT, hn38⟩, hPB, ⟨her, hfa, hss, ger, gfa, gss, gms⟩, ⟨gpo, gsi⟩, ⟨hv1, hv2, hvv⟩⟩ := hP
  have hO := hD.inv.ok
  have hI := hD.inv.ts
  have hSt := hD.inv.st
  have hS := hD.inv.sn
  have hR := hRM.1.2
  have hG := gp_inv hD
  have hb0 := hO.b0
  have hbw := hO.bw
  have hbf : ¬ Fr [] s.heap.size b := fun z => z.elim (fun q => q.elim) (fun q => by omega)
  refine v_aload_n X dL_law_1726 1727 rfl 4 rfl ?_
  refine v_rdV X hM.C (PW.app h_cm.1 h_co.1) (c_X9_witnessCount l E x co hs er fa ss hO) kvX9_witnessCount kiX9_witnessCount kl_L_266 rfl rfl (As := []) rfl rfl (rm_law0 rfl (by omega) (by omega)) dL_law_1727 1730 rfl ?_
  show V p l e room_1 s m args below meth cd Q 9 H lo kq nq 1730 [(5, .int (zI i)), (4, .ref (x + 340)), (3, .ref (x + 339)), (2, .ref (x + 334)), (1, .ref x), (0, .ref b)] [.int (zI (co 0 1))]
  refine v_aload_n X dL_law_1730 1731 rfl 3 rfl ?_
  refine v_muV X hM (h_mo.1) (c_X10_witnessCount l E (x + 334) mo co hO hR) kvX10_witnessCount kiX10_witnessCount kl_L_269 (q0 := 0) rfl rfl (As := []) rfl rfl (rm_law rfl (by omega) (by omega)) dL_law_1731 1734 rfl (k' := kq + 0) (n' := nq + 0) rfl rfl (fsI (fun q q1 q2 => (Or.inr (by omega)))) h_mo (fun rv H1 lo1 hM hF hpo => ?_)
  obtain ⟨rfl, hw_0⟩ := hpo
  have h_mo : PR E (x + 334) (modelW E (x + 334) (updC mo 0 (updZ (mo 0) 0 0))) H1 := hw_0
  replace hzl := Nat.le_trans hzl hF.1
  replace h_cm := h_cm.kept hF 1 rfl (fsd (by omega))
  replace h_co := h_co.kept hF 28 rfl (fsd (by omega))
  replace h_bf := h_bf.kept hF 28 rfl (fsd (by omega))
  replace h_sv := h_sv.kept hF 28 rfl (fsd (by omega))
  replace h_hi := h_hi.kept hF 2 rfl (fsd (by omega))
  replace h_hf := h_hf.kept hF (fsd (by omega))
  replace h_dk := h_dk.kept hF 3 rfl (fsd (by omega))
  replace h_se := h_se.kept hF 5 rfl (fsd (by omega))
  replace h_pg := h_pg.kept hF 1 rfl (fsd (by omega))
  replace h_sb := h_sb.kept hF 1 rfl (fsd (by omega))
  replace h_sa := h_sa.kept hF 1 rfl (fsd (by omega))
  replace h_pr := h_pr.kept hF 10 rfl (fsd (by omega))
  replace h_ln := h_ln.kept hF 1 rfl (fsd (by omega))
  replace h_la := h_la.kept hF 1 rfl (fsd (by omega))
  replace h_out := h_out.kept hF 1 rfl (fsd (by omega))
  replace h_outD := h_outD.kept hF 1 rfl (fsd (by omega))
  show V p l e room_1 s m args below meth cd Q 9 H1 lo1 kq nq 1734 [(5, .int (zI i)), (4, .ref (x + 340)), (3, .ref (x + 339)), (2, .ref (x + 334)), (1, .ref x), (0, .ref b)] [.int (zI (co 0 1)), .int (zI (co 0 1))]
  refine v_icmp_same X dL_law_1734 3555 (by decide) ?_
  refine v_widen (k' := kq + 60) (n' := nq + 4000) (by omega) (by omega) ?_
  exact V_pick [0, 1, 2, 3, 4, 5] rfl (kk _ _ hM ⟨hzl, _, _, _, _, _, _, _, _, _, _, _, _, _, _, _, _, _, _, _, _, _, _, _, _, _, _, _, _, ⟨h_cm, h_co, h_bf, h_sv, h_hi, h_hf, h_dk, h_se, h_pg, h_sb, h_sa, h_pr, h_ln, h_la, h_mo, h_out, h_outD⟩, hP0.mo_0⟩)
set_option maxHeartbeats 4000000 in
set_option maxRecDepth 20000 in
theorem lo_groupCount (hl : l.stackTraces = false) (X : CF p m cd code 9 s args RL) (hX : va_X b Lx xs s s.heap) (hbl : b < s.heap.size) (hLx : Lx ≤ 2560) (hM : MS E [] s H lo) (hk : kq + 60 ≤ 603072) (hn : nq + 4000 ≤ 7211113) (hx : s.heap.size ≤ x) (hzl : x + 341 ≤ H.size) {v : Nat} {N : Nat} {f : Int → Int} {nn : Int} {v2 : Nat} {N2 : Nat} {f2 : Int → Int} {n2 : Int} {co : Nat → Int → Int} {bf : Nat → Int → Int} {cv : Nat → Int → Int} {hc : Nat → Nat → Int → Int} {nx : Int} {sz : Int} {hs : Int} {er : Int} {fa : Int} {ss : Int} {dk : Nat → Int → Int} {se : Nat → Int → Int} {po : Int} {si : Int} {pr : Nat → Int → Int} {ml : Int} {ml2 : Int} {mo : Nat → Int → Int} {lg : Nat → Int64} {dg : Nat → UInt64} (hW : LawW E x v N f nn v2 N2 f2 n2 co bf cv hc nx sz hs er fa ss dk se po si pr ml ml2 mo lg dg H) (hP : LawP x v N f nn v2 N2 f2 n2 co cv hc nx sz hs er fa ss po si pr mo) (i0 : 0 ≤ i) (i1 : i + 5 ≤ (Lx : Int)) (kk : ∀ (H1 : Heap) (lo1 : List Loc), MS E [] s H1 lo1 → LawI E x H1 → V p l e room_1 s m args below meth cd Q 9 H1 lo1 (kq + 60) (nq + 4000) 3555 [(5, .int (zI i)), (4, .ref (x + 340)), (3, .ref (x + 339)), (2, .ref (x + 334)), (1, .ref x), (0, .ref b)] []) : V p l e room_1 s m args below meth cd Q 9 H lo kq nq 2181 [(5, .int (zI i)), (4, .ref (x + 340)), (3, .ref (x + 339)), (2, .ref (x + 334)), (1, .ref x), (0, .ref b)] [] := by
  obtain ⟨h_cm, h_co, h_bf, h_sv, h_hi, h_hf, h_dk, h_se, h_pg, h_sb, h_sa, h_pr, h_ln, h_la, h_mo, h_out, h_outD⟩ := hW
  have hP0 := hP
  obtain ⟨⟨hD, hDv, hDh⟩, ⟨hRM, hch, hcs⟩, ⟨⟨n0, n1⟩, ⟨s0, s1⟩, hhs⟩, ⟨hm8, hnn, hAg, hNN, hnN, hf9⟩, ⟨T, hSB, hLT, hn38⟩, hPB, ⟨her, hfa, hss, ger, gfa, gss, gms⟩, ⟨gpo, gsi⟩, ⟨hv1, hv2, hvv⟩⟩ := hP
  have hO := hD.inv.ok
  have hI := hD.inv.ts
  have hSt := hD.inv.st
  have hS := hD.inv.sn
  have hR := hRM.1.2
  have hG := gp_inv hD
  have hb0 := hO.b0
  have hbw := hO.bw
  have hbf : ¬ Fr [] s.heap.size b := fun z => z.elim (fun q => q.elim) (fun q => by omega)
  refine v_aload_n X dL_law_2181 2182 rfl 4 rfl ?_
  refine v_rdV X hM.C (PW.app h_cm.1 h_co.1) (c_X9_groupCount l E x co hs er fa ss hO) kvX9_groupCount kiX9_groupCount kl_L_291 rfl rfl (As := []) rfl rfl (rm_law0 rfl (by omega) (by omega)) dL_law_2182 2185 rfl ?_
  show V p l e room_1 s m args below meth cd Q 9 H lo kq nq 2185 [(5, .int (zI i)), (4, .ref (x + 340)), (3, .ref (x + 339)), (2, .ref (x + 334)), (1, .ref x), (0, .ref b)] [.int (zI (sumZ (fun j => bz (co 13 j = j)) (co 0 1).toNat))]
  refine v_aload_n X dL_law_2185 2186 rfl 3 rfl ?_
  refine v_muV X hM (h_mo.1) (c_X10_groupCount l E (x + 334) mo co hO hR hI hG) kvX10_groupCount kiX10_groupCount kl_L_294 (q0 := 0) rfl rfl (As := []) rfl rfl (rm_law rfl (by omega) (by omega)) dL_law_2186 2189 rfl (k' := kq + 0) (n' := nq + 0) rfl rfl (fsI (fun q q1 q2 => (Or.inr (by omega)))) h_mo (fun rv H1 lo1 hM hF hpo => ?_)
  obtain ⟨rfl, hw_0⟩ := hpo
  have h_mo : PR E (x + 334) (modelW E (x + 334) (updC mo 0 (updZ (mo 0) 0 0))) H1 := hw_0
  replace hzl := Nat.le_trans hzl hF.1
  replace h_cm := h_cm.kept hF 1 rfl (fsd (by omega))
  replace h_co := h_co.kept hF 28 rfl (fsd (by omega))
  replace h_bf := h_bf.kept hF 28 rfl (fsd (by omega))
  replace h_sv := h_sv.kept hF 28 rfl (fsd (by omega))
  replace h_hi := h_hi.kept hF 2 rfl (fsd (by omega))
  replace h_hf := h_hf.kept hF (fsd (by omega))
  replace h_dk := h_dk.kept hF 3 rfl (fsd (by omega))
  replace h_se := h_se.kept hF 5 rfl (fsd (by omega))
  replace h_pg := h_pg.kept hF 1 rfl (fsd (by omega))
  replace h_sb := h_sb.kept hF 1 rfl (fsd (by omega))
  replace h_sa := h_sa.kept hF 1 rfl (fsd (by omega))
  replace h_pr := h_pr.kept hF 10 rfl (fsd (by omega))
  replace h_ln := h_ln.kept hF 1 rfl (fsd (by omega))
  replace h_la := h_la.kept hF 1 rfl (fsd (by omega))
  replace h_out := h_out.kept hF 1 rfl (fsd (by omega))
  replace h_outD := h_outD.kept hF 1 rfl (fsd (by omega))
  show V p l e room_1 s m args below meth cd Q 9 H1 lo1 kq nq 2189 [(5, .int (zI i)), (4, .ref (x + 340)), (3, .ref (x + 339)), (2, .ref (x + 334)), (1, .ref x), (0, .ref b)] [.int (zI (sumZ (fun j => bz (co 13 j = j)) (co 0 1).toNat)), .int (zI (sumZ (fun j => bz (co 13 j = j)) (co 0 1).toNat))]
  refine v_icmp_same X dL_law_2189 3555 (by decide) ?_
  refine v_widen (k' := kq + 60) (n' := nq + 4000) (by omega) (by omega) ?_
  exact V_pick [0, 1, 2, 3, 4, 5] rfl (kk _ _ hM ⟨hzl, _, _, _, _, _, _, _, _, _, _, _, _, _, _, _, _, _, _, _, _, _, _, _, _, _, _, _, _, ⟨h_cm, h_co, h_bf, h_sv, h_hi, h_hf, h_dk, h_se, h_pg, h_sb, h_sa, h_pr, h_ln, h_la, h_mo, h_out, h_outD⟩, hP0.mo_0⟩)
set_option maxHeartbeats 4000000 in
set_option maxRecDepth 20000 in
theorem lo_mostSentenced (hl : l.stackTraces = false) (X : CF p m cd code 9 s args RL) (hX : va_X b Lx xs s s.heap) (hbl : b < s.heap.size) (hLx : Lx ≤ 2560) (hM : MS E [] s H lo) (hk : kq + 60 ≤ 603072) (hn : nq + 4000 ≤ 7211113) (hx : s.heap.size ≤ x) (hzl : x + 341 ≤ H.size) {v : Nat} {N : Nat} {f : Int → Int} {nn : Int} {v2 : Nat} {N2 : Nat} {f2 : Int → Int} {n2 : Int} {co : Nat → Int → Int} {bf : Nat → Int → Int} {cv : Nat → Int → Int} {hc : Nat → Nat → Int → Int} {nx : Int} {sz : Int} {hs : Int} {er : Int} {fa : Int} {ss : Int} {dk : Nat → Int → Int} {se : Nat → Int → Int} {po : Int} {si : Int} {pr : Nat → Int → Int} {ml : Int} {ml2 : Int} {mo : Nat → Int → Int} {lg : Nat → Int64} {dg : Nat → UInt64} (hW : LawW E x v N f nn v2 N2 f2 n2 co bf cv hc nx sz hs er fa ss dk se po si pr ml ml2 mo lg dg H) (hP : LawP x v N f nn v2 N2 f2 n2 co cv hc nx sz hs er fa ss po si pr mo) (i0 : 0 ≤ i) (i1 : i + 5 ≤ (Lx : Int)) (kk : ∀ (H1 : Heap) (lo1 : List Loc), MS E [] s H1 lo1 → LawI E x H1 → V p l e room_1 s m args below meth cd Q 9 H1 lo1 (kq + 60) (nq + 4000) 3555 [(5, .int (zI i)), (4, .ref (x + 340)), (3, .ref (x + 339)), (2, .ref (x + 334)), (1, .ref x), (0, .ref b)] []) : V p l e room_1 s m args below meth cd Q 9 H lo kq nq 2698 [(5, .int (zI i)), (4, .ref (x + 340)), (3, .ref (x + 339)), (2, .ref (x + 334)), (1, .ref x), (0, .ref b)] [] := by
  obtain ⟨h_cm, h_co, h_bf, h_sv, h_hi, h_hf, h_dk, h_se, h_pg, h_sb, h_sa, h_pr, h_ln, h_la, h_mo, h_out, h_outD⟩ := hW
  have hP0 := hP
  obtain ⟨⟨hD, hDv, hDh⟩, ⟨hRM, hch, hcs⟩, ⟨⟨n0, n1⟩, ⟨s0, s1⟩, hhs⟩, ⟨hm8, hnn, hAg, hNN, hnN, hf9⟩, ⟨T, hSB, hLT, hn38⟩, hPB, ⟨her, hfa, hss, ger, gfa, gss, gms⟩, ⟨gpo, gsi⟩, ⟨hv1, hv2, hvv⟩⟩ := hP
  have hO := hD.inv.ok
  have hI := hD.inv.ts
  have hSt := hD.inv.st
  have hS := hD.inv.sn
  have hR := hRM.1.2
  have hG := gp_inv hD
  have hb0 := hO.b0
  have hbw := hO.bw
  have hbf : ¬ Fr [] s.heap.size b := fun z => z.elim (fun q => q.elim) (fun q => by omega)
  refine v_aload_n X dL_law_2698 2699 rfl 4 rfl ?_
  refine v_rdV X hM.C (PW.app h_cm.1 h_co.1) (c_X9_mostSentenced l E x co hs er fa ss hO) kvX9_mostSentenced kiX9_mostSentenced kl_L_323 rfl rfl (As := []) rfl rfl (rm_law0 rfl (by omega) (by omega)) dL_law_2699 2702 rfl ?_
  show V p l e room_1 s m args below meth cd Q 9 H lo kq nq 2702 [(5, .int (zI i)), (4, .ref (x + 340)), (3, .ref (x + 339)), (2, .ref (x + 334)), (1, .ref x), (0, .ref b)] [.int (zI (amx (co 12) 6))]
  refine v_aload_n X dL_law_2702 2703 rfl 3 rfl ?_
  refine v_muV X hM (h_mo.1) (c_X10_mostSentenced l E (x + 334) mo co hO hR hS) kvX10_mostSentenced kiX10_mostSentenced kl_L_326 (q0 := 0) rfl rfl (As := []) rfl rfl (rm_law rfl (by omega) (by omega)) dL_law_2703 2706 rfl (k' := kq + 0) (n' := nq + 0) rfl rfl (fsI (fun q q1 q2 => (Or.inr (by omega)))) h_mo (fun rv H1 lo1 hM hF hpo => ?_)
  obtain ⟨rfl, hw_0⟩ := hpo
  have h_mo : PR E (x + 334) (modelW E (x + 334) (updC mo 0 (updZ (mo 0) 0 0))) H1 := hw_0
  replace hzl := Nat.le_trans hzl hF.1
  replace h_cm := h_cm.kept hF 1 rfl (fsd (by omega))
  replace h_co := h_co.kept hF 28 rfl (fsd (by omega))
  replace h_bf := h_bf.kept hF 28 rfl (fsd (by omega))
  replace h_sv := h_sv.kept hF 28 rfl (fsd (by omega))
  replace h_hi := h_hi.kept hF 2 rfl (fsd (by omega))
  replace h_hf := h_hf.kept hF (fsd (by omega))
  replace h_dk := h_dk.kept hF 3 rfl (fsd (by omega))
  replace h_se := h_se.kept hF 5 rfl (fsd (by omega))
  replace h_pg := h_pg.kept hF 1 rfl (fsd (by omega))
  replace h_sb := h_sb.kept hF 1 rfl (fsd (by omega))
  replace h_sa := h_sa.kept hF 1 rfl (fsd (by omega))
  replace h_pr := h_pr.kept hF 10 rfl (fsd (by omega))
  replace h_ln := h_ln.kept hF 1 rfl (fsd (by omega))
  replace h_la := h_la.kept hF 1 rfl (fsd (by omega))
  replace h_out := h_out.kept hF 1 rfl (fsd (by omega))
  replace h_outD := h_outD.kept hF 1 rfl (fsd (by omega))
  show V p l e room_1 s m args below meth cd Q 9 H1 lo1 kq nq 2706 [(5, .int (zI i)), (4, .ref (x + 340)), (3, .ref (x + 339)), (2, .ref (x + 334)), (1, .ref x), (0, .ref b)] [.int (zI (amx (co 12) 6)), .int (zI (amx (co 12) 6))]
  refine v_icmp_same X dL_law_2706 3555 (by decide) ?_
  refine v_widen (k' := kq + 60) (n' := nq + 4000) (by omega) (by omega) ?_
  exact V_pick [0, 1, 2, 3, 4, 5] rfl (kk _ _ hM ⟨hzl, _, _, _, _, _, _, _, _, _, _, _, _, _, _, _, _, _, _, _, _, _, _, _, _, _, _, _, _, ⟨h_cm, h_co, h_bf, h_sv, h_hi, h_hf, h_dk, h_se, h_pg, h_sb, h_sa, h_pr, h_ln, h_la, h_mo, h_out, h_outD⟩, hP0.mo_0⟩)
set_option maxHeartbeats 4000000 in
set_option maxRecDepth 20000 in
theorem lo_closedCount (hl : l.stackTraces = false) (X : CF p m cd code 9 s args RL) (hX : va_X b Lx xs s s.heap) (hbl : b < s.heap.size) (hLx : Lx ≤ 2560) (hM : MS E [] s H lo) (hk : kq + 60 ≤ 603072) (hn : nq + 4000 ≤ 7211113) (hx : s.heap.size ≤ x) (hzl : x + 341 ≤ H.size) {v : Nat} {N : Nat} {f : Int → Int} {nn : Int} {v2 : Nat} {N2 : Nat} {f2 : Int → Int} {n2 : Int} {co : Nat → Int → Int} {bf : Nat → Int → Int} {cv : Nat → Int → Int} {hc : Nat → Nat → Int → Int} {nx : Int} {sz : Int} {hs : Int} {er : Int} {fa : Int} {ss : Int} {dk : Nat → Int → Int} {se : Nat → Int → Int} {po : Int} {si : Int} {pr : Nat → Int → Int} {ml : Int} {ml2 : Int} {mo : Nat → Int → Int} {lg : Nat → Int64} {dg : Nat → UInt64} (hW : LawW E x v N f nn v2 N2 f2 n2 co bf cv hc nx sz hs er fa ss dk se po si pr ml ml2 mo lg dg H) (hP : LawP x v N f nn v2 N2 f2 n2 co cv hc nx sz hs er fa ss po si pr mo) (i0 : 0 ≤ i) (i1 : i + 5 ≤ (Lx : Int)) (kk : ∀ (H1 : Heap) (lo1 : List Loc), MS E [] s H1 lo1 → LawI E x H1 → V p l e room_1 s m args below meth cd Q 9 H1 lo1 (kq + 60) (nq + 4000) 3555 [(5, .int (zI i)), (4, .ref (x + 340)), (3, .ref (x + 339)), (2, .ref (x + 334)), (1, .ref x), (0, .ref b)] []) : V p l e room_1 s m args below meth cd Q 9 H lo kq nq 2836 [(5, .int (zI i)), (4, .ref (x + 340)), (3, .ref (x + 339)), (2, .ref (x + 334)), (1, .ref x), (0, .ref b)] [] := by
  obtain ⟨h_cm, h_co, h_bf, h_sv, h_hi, h_hf, h_dk, h_se, h_pg, h_sb, h_sa, h_pr, h_ln, h_la, h_mo, h_out, h_outD⟩ := hW
  have hP0 := hP
  obtain ⟨⟨hD, hDv, hDh⟩, ⟨hRM, hch, hcs⟩, ⟨⟨n0, n1⟩, ⟨s0, s1⟩, hhs⟩, ⟨hm8, hnn, hAg, hNN, hnN, hf9⟩, ⟨T, hSB, hLT, hn38⟩, hPB, ⟨her, hfa, hss, ger, gfa, gss, gms⟩, ⟨gpo, gsi⟩, ⟨hv1, hv2, hvv⟩⟩ := hP
  have hO := hD.inv.ok
  have hI := hD.inv.ts
  have hSt := hD.inv.st
  have hS := hD.inv.sn
  have hR := hRM.1.2
  have hG := gp_inv hD
  have hb0 := hO.b0
  have hbw := hO.bw
  have hbf : ¬ Fr [] s.heap.size b := fun z => z.elim (fun q => q.elim) (fun q => by omega)
  refine v_aload_n X dL_law_2836 2837 rfl 4 rfl ?_
  refine v_rdV X hM.C (PW.app h_cm.1 h_co.1) (c_X9_closedCount l E x co hs er fa ss hO) kvX9_closedCount kiX9_closedCount kl_L_337 rfl rfl (As := []) rfl rfl (rm_law0 rfl (by omega) (by omega)) dL_law_2837 2840 rfl ?_
  show V p l e room_1 s m args below meth cd Q 9 H lo kq nq 2840 [(5, .int (zI i)), (4, .ref (x + 340)), (3, .ref (x + 339)), (2, .ref (x + 334)), (1, .ref x), (0, .ref b)] [.int (zI (sumZ (fun j => bz (co 3 j = 2)) (co 0 0).toNat))]
  refine v_aload_n X dL_law_2840 2841 rfl 3 rfl ?_
  refine v_muV X hM (h_mo.1) (c_X10_closedCount l E (x + 334) mo co hO hR) kvX10_closedCount kiX10_closedCount kl_L_340 (q0 := 0) rfl rfl (As := []) rfl rfl (rm_law rfl (by omega) (by omega)) dL_law_2841 2844 rfl (k' := kq + 0) (n' := nq + 0) rfl rfl (fsI (fun q q1 q2 => (Or.inr (by omega)))) h_mo (fun rv H1 lo1 hM hF hpo => ?_)
  obtain ⟨rfl, hw_0⟩ := hpo
  have h_mo : PR E (x + 334) (modelW E (x + 334) (updC mo 0 (updZ (mo 0) 0 0))) H1 := hw_0
  replace hzl := Nat.le_trans hzl hF.1
  replace h_cm := h_cm.kept hF 1 rfl (fsd (by omega))
  replace h_co := h_co.kept hF 28 rfl (fsd (by omega))
  replace h_bf := h_bf.kept hF 28 rfl (fsd (by omega))
  replace h_sv := h_sv.kept hF 28 rfl (fsd (by omega))
  replace h_hi := h_hi.kept hF 2 rfl (fsd (by omega))
  replace h_hf := h_hf.kept hF (fsd (by omega))
  replace h_dk := h_dk.kept hF 3 rfl (fsd (by omega))
  replace h_se := h_se.kept hF 5 rfl (fsd (by omega))
  replace h_pg := h_pg.kept hF 1 rfl (fsd (by omega))
  replace h_sb := h_sb.kept hF 1 rfl (fsd (by omega))
  replace h_sa := h_sa.kept hF 1 rfl (fsd (by omega))
  replace h_pr := h_pr.kept hF 10 rfl (fsd (by omega))
  replace h_ln := h_ln.kept hF 1 rfl (fsd (by omega))
  replace h_la := h_la.kept hF 1 rfl (fsd (by omega))
  replace h_out := h_out.kept hF 1 rfl (fsd (by omega))
  replace h_outD := h_outD.kept hF 1 rfl (fsd (by omega))
  show V p l e room_1 s m args below meth cd Q 9 H1 lo1 kq nq 2844 [(5, .int (zI i)), (4, .ref (x + 340)), (3, .ref (x + 339)), (2, .ref (x + 334)), (1, .ref x), (0, .ref b)] [.int (zI (sumZ (fun j => bz (co 3 j = 2)) (co 0 0).toNat)), .int (zI (sumZ (fun j => bz (co 3 j = 2)) (co 0 0).toNat))]
  refine v_icmp_same X dL_law_2844 3555 (by decide) ?_
  refine v_widen (k' := kq + 60) (n' := nq + 4000) (by omega) (by omega) ?_
  exact V_pick [0, 1, 2, 3, 4, 5] rfl (kk _ _ hM ⟨hzl, _, _, _, _, _, _, _, _, _, _, _, _, _, _, _, _, _, _, _, _, _, _, _, _, _, _, _, _, ⟨h_cm, h_co, h_bf, h_sv, h_hi, h_hf, h_dk, h_se, h_pg, h_sb, h_sa, h_pr, h_ln, h_la, h_mo, h_out, h_outD⟩, hP0.mo_0⟩)
set_option maxHeartbeats 4000000 in
set_option maxRecDepth 20000 in
theorem lo_guiltyCount (hl : l.stackTraces = false) (X : CF p m cd code 9 s args RL) (hX : va_X b Lx xs s s.heap) (hbl : b < s.heap.size) (hLx : Lx ≤ 2560) (hM : MS E [] s H lo) (hk : kq + 60 ≤ 603072) (hn : nq + 4000 ≤ 7211113) (hx : s.heap.size ≤ x) (hzl : x + 341 ≤ H.size) {v : Nat} {N : Nat} {f : Int → Int} {nn : Int} {v2 : Nat} {N2 : Nat} {f2 : Int → Int} {n2 : Int} {co : Nat → Int → Int} {bf : Nat → Int → Int} {cv : Nat → Int → Int} {hc : Nat → Nat → Int → Int} {nx : Int} {sz : Int} {hs : Int} {er : Int} {fa : Int} {ss : Int} {dk : Nat → Int → Int} {se : Nat → Int → Int} {po : Int} {si : Int} {pr : Nat → Int → Int} {ml : Int} {ml2 : Int} {mo : Nat → Int → Int} {lg : Nat → Int64} {dg : Nat → UInt64} (hW : LawW E x v N f nn v2 N2 f2 n2 co bf cv hc nx sz hs er fa ss dk se po si pr ml ml2 mo lg dg H) (hP : LawP x v N f nn v2 N2 f2 n2 co cv hc nx sz hs er fa ss po si pr mo) (i0 : 0 ≤ i) (i1 : i + 5 ≤ (Lx : Int)) (kk : ∀ (H1 : Heap) (lo1 : List Loc), MS E [] s H1 lo1 → LawI E x H1 → V p l e room_1 s m args below meth cd Q 9 H1 lo1 (kq + 60) (nq + 4000) 3555 [(5, .int (zI i)), (4, .ref (x + 340)), (3, .ref (x + 339)), (2, .ref (x + 334)), (1, .ref x), (0, .ref b)] []) : V p l e room_1 s m args below meth cd Q 9 H lo kq nq 2849 [(5, .int (zI i)), (4, .ref (x + 340)), (3, .ref (x + 339)), (2, .ref (x + 334)), (1, .ref x), (0, .ref b)] [] := by
  obtain ⟨h_cm, h_co, h_bf, h_sv, h_hi, h_hf, h_dk, h_se, h_pg, h_sb, h_sa, h_pr, h_ln, h_la, h_mo, h_out, h_outD⟩ := hW
  have hP0 := hP
  obtain ⟨⟨hD, hDv, hDh⟩, ⟨hRM, hch, hcs⟩, ⟨⟨n0, n1⟩, ⟨s0, s1⟩, hhs⟩, ⟨hm8, hnn, hAg, hNN, hnN, hf9⟩, ⟨T, hSB, hLT, hn38⟩, hPB, ⟨her, hfa, hss, ger, gfa, gss, gms⟩, ⟨gpo, gsi⟩, ⟨hv1, hv2, hvv⟩⟩ := hP
  have hO := hD.inv.ok
  have hI := hD.inv.ts
  have hSt := hD.inv.st
  have hS := hD.inv.sn
  have hR := hRM.1.2
  have hG := gp_inv hD
  have hb0 := hO.b0
  have hbw := hO.bw
  have hbf : ¬ Fr [] s.heap.size b := fun z => z.elim (fun q => q.elim) (fun q => by omega)
  refine v_aload_n X dL_law_2849 2850 rfl 4 rfl ?_
  refine v_rdV X hM.C (PW.app h_cm.1 h_co.1) (c_X9_guiltyCount l E x co hs er fa ss hO) kvX9_guiltyCount kiX9_guiltyCount kl_L_341 rfl rfl (As := []) rfl rfl (rm_law0 rfl (by omega) (by omega)) dL_law_2850 2853 rfl ?_
  show V p l e room_1 s m args below meth cd Q 9 H lo kq nq 2853 [(5, .int (zI i)), (4, .ref (x + 340)), (3, .ref (x + 339)), (2, .ref (x + 334)), (1, .ref x), (0, .ref b)] [.int (zI (sumZ (fun j => bz (¬ co 4 j = 0)) (co 0 0).toNat))]
  refine v_aload_n X dL_law_2853 2854 rfl 3 rfl ?_
  refine v_muV X hM (h_mo.1) (c_X10_guiltyCount l E (x + 334) mo co hO hR hSt) kvX10_guiltyCount kiX10_guiltyCount kl_L_344 (q0 := 0) rfl rfl (As := []) rfl rfl (rm_law rfl (by omega) (by omega)) dL_law_2854 2857 rfl (k' := kq + 0) (n' := nq + 0) rfl rfl (fsI (fun q q1 q2 => (Or.inr (by omega)))) h_mo (fun rv H1 lo1 hM hF hpo => ?_)
  obtain ⟨rfl, hw_0⟩ := hpo
  have h_mo : PR E (x + 334) (modelW E (x + 334) (updC mo 0 (updZ (mo 0) 0 0))) H1 := hw_0
  replace hzl := Nat.le_trans hzl hF.1
  replace h_cm := h_cm.kept hF 1 rfl (fsd (by omega))
  replace h_co := h_co.kept hF 28 rfl (fsd (by omega))
  replace h_bf := h_bf.kept hF 28 rfl (fsd (by omega))
  replace h_sv := h_sv.kept hF 28 rfl (fsd (by omega))
  replace h_hi := h_hi.kept hF 2 rfl (fsd (by omega))
  replace h_hf := h_hf.kept hF (fsd (by omega))
  replace h_dk := h_dk.kept hF 3 rfl (fsd (by omega))
  replace h_se := h_se.kept hF 5 rfl (fsd (by omega))
  replace h_pg := h_pg.kept hF 1 rfl (fsd (by omega))
  replace h_sb := h_sb.kept hF 1 rfl (fsd (by omega))
  replace h_sa := h_sa.kept hF 1 rfl (fsd (by omega))
  replace h_pr := h_pr.kept hF 10 rfl (fsd (by omega))
  replace h_ln := h_ln.kept hF 1 rfl (fsd (by omega))
  replace h_la := h_la.kept hF 1 rfl (fsd (by omega))
  replace h_out := h_out.kept hF 1 rfl (fsd (by omega))
  replace h_outD := h_outD.kept hF 1 rfl (fsd (by omega))
  show V p l e room_1 s m args below meth cd Q 9 H1 lo1 kq nq 2857 [(5, .int (zI i)), (4, .ref (x + 340)), (3, .ref (x + 339)), (2, .ref (x + 334)), (1, .ref x), (0, .ref b)] [.int (zI (sumZ (fun j => bz (¬ co 4 j = 0)) (co 0 0).toNat)), .int (zI (sumZ (fun j => bz (¬ co 4 j = 0)) (co 0 0).toNat))]
  refine v_icmp_same X dL_law_2857 3555 (by decide) ?_
  refine v_widen (k' := kq + 60) (n' := nq + 4000) (by omega) (by omega) ?_
  exact V_pick [0, 1, 2, 3, 4, 5] rfl (kk _ _ hM ⟨hzl, _, _, _, _, _, _, _, _, _, _, _, _, _, _, _, _, _, _, _, _, _, _, _, _, _, _, _, _, ⟨h_cm, h_co, h_bf, h_sv, h_hi, h_hf, h_dk, h_se, h_pg, h_sb, h_sa, h_pr, h_ln, h_la, h_mo, h_out, h_outD⟩, hP0.mo_0⟩)
set_option maxHeartbeats 4000000 in
set_option maxRecDepth 20000 in
theorem lo_decisionCount (hl : l.stackTraces = false) (X : CF p m cd code 9 s args RL) (hX : va_X b Lx xs s s.heap) (hbl : b < s.heap.size) (hLx : Lx ≤ 2560) (hM : MS E [] s H lo) (hk : kq + 60 ≤ 603072) (hn : nq + 4000 ≤ 7211113) (hx : s.heap.size ≤ x) (hzl : x + 341 ≤ H.size) {v : Nat} {N : Nat} {f : Int → Int} {nn : Int} {v2 : Nat} {N2 : Nat} {f2 : Int → Int} {n2 : Int} {co : Nat → Int → Int} {bf : Nat → Int → Int} {cv : Nat → Int → Int} {hc : Nat → Nat → Int → Int} {nx : Int} {sz : Int} {hs : Int} {er : Int} {fa : Int} {ss : Int} {dk : Nat → Int → Int} {se : Nat → Int → Int} {po : Int} {si : Int} {pr : Nat → Int → Int} {ml : Int} {ml2 : Int} {mo : Nat → Int → Int} {lg : Nat → Int64} {dg : Nat → UInt64} (hW : LawW E x v N f nn v2 N2 f2 n2 co bf cv hc nx sz hs er fa ss dk se po si pr ml ml2 mo lg dg H) (hP : LawP x v N f nn v2 N2 f2 n2 co cv hc nx sz hs er fa ss po si pr mo) (i0 : 0 ≤ i) (i1 : i + 5 ≤ (Lx : Int)) (kk : ∀ (H1 : Heap) (lo1 : List Loc), MS E [] s H1 lo1 → LawI E x H1 → V p l e room_1 s m args below meth cd Q 9 H1 lo1 (kq + 60) (nq + 4000) 3555 [(5, .int (zI i)), (4, .ref (x + 340)), (3, .ref (x + 339)), (2, .ref (x + 334)), (1, .ref x), (0, .ref b)] []) : V p l e room_1 s m args below meth cd Q 9 H lo kq nq 2862 [(5, .int (zI i)), (4, .ref (x + 340)), (3, .ref (x + 339)), (2, .ref (x + 334)), (1, .ref x), (0, .ref b)] [] := by
  obtain ⟨h_cm, h_co, h_bf, h_sv, h_hi, h_hf, h_dk, h_se, h_pg, h_sb, h_sa, h_pr, h_ln, h_la, h_mo, h_out, h_outD⟩ := hW
  have hP0 := hP
  obtain ⟨⟨hD, hDv, hDh⟩, ⟨hRM, hch, hcs⟩, ⟨⟨n0, n1⟩, ⟨s0, s1⟩, hhs⟩, ⟨hm8, hnn, hAg, hNN, hnN, hf9⟩, ⟨T, hSB, hLT, hn38⟩, hPB, ⟨her, hfa, hss, ger, gfa, gss, gms⟩, ⟨gpo, gsi⟩, ⟨hv1, hv2, hvv⟩⟩ := hP
  have hO := hD.inv.ok
  have hI := hD.inv.ts
  have hSt := hD.inv.st
  have hS := hD.inv.sn
  have hR := hRM.1.2
  have hG := gp_inv hD
  have hb0 := hO.b0
  have hbw := hO.bw
  have hbf : ¬ Fr [] s.heap.size b := fun z => z.elim (fun q => q.elim) (fun q => by omega)
  refine v_aload_n X dL_law_2862 2863 rfl 4 rfl ?_
  refine v_rdV X hM.C (PW.app h_cm.1 h_co.1) (c_X9_decisionCount l E x co hs er fa ss hO) kvX9_decisionCount kiX9_decisionCount kl_L_345 rfl rfl (As := []) rfl rfl (rm_law0 rfl (by omega) (by omega)) dL_law_2863 2866 rfl ?_
  show V p l e room_1 s m args below meth cd Q 9 H lo kq nq 2866 [(5, .int (zI i)), (4, .ref (x + 340)), (3, .ref (x + 339)), (2, .ref (x + 334)), (1, .ref x), (0, .ref b)] [.int (zI (co 0 2))]
  refine v_aload_n X dL_law_2866 2867 rfl 3 rfl ?_
  refine v_muV X hM (h_mo.1) (c_X10_decisionCount l E (x + 334) mo co hO hR) kvX10_decisionCount kiX10_decisionCount kl_L_348 (q0 := 0) rfl rfl (As := []) rfl rfl (rm_law rfl (by omega) (by omega)) dL_law_2867 2870 rfl (k' := kq + 0) (n' := nq + 0) rfl rfl (fsI (fun q q1 q2 => (Or.inr (by omega)))) h_mo (fun rv H1 lo1 hM hF hpo => ?_)
  obtain ⟨rfl, hw_0⟩ := hpo
  have h_mo : PR E (x + 334) (modelW E (x + 334) (updC mo 0 (updZ (mo 0) 0 0))) H1 := hw_0
  replace hzl := Nat.le_trans hzl hF.1
  replace h_cm := h_cm.kept hF 1 rfl (fsd (by omega))
  replace h_co := h_co.kept hF 28 rfl (fsd (by omega))
  replace h_bf := h_bf.kept hF 28 rfl (fsd (by omega))
  replace h_sv := h_sv.kept hF 28 rfl (fsd (by omega))
  replace h_hi := h_hi.kept hF 2 rfl (fsd (by omega))
  replace h_hf := h_hf.kept hF (fsd (by omega))
  replace h_dk := h_dk.kept hF 3 rfl (fsd (by omega))
  replace h_se := h_se.kept hF 5 rfl (fsd (by omega))
  replace h_pg := h_pg.kept hF 1 rfl (fsd (by omega))
  replace h_sb := h_sb.kept hF 1 rfl (fsd (by omega))
  replace h_sa := h_sa.kept hF 1 rfl (fsd (by omega))
  replace h_pr := h_pr.kept hF 10 rfl (fsd (by omega))
  replace h_ln := h_ln.kept hF 1 rfl (fsd (by omega))
  replace h_la := h_la.kept hF 1 rfl (fsd (by omega))
  replace h_out := h_out.kept hF 1 rfl (fsd (by omega))
  replace h_outD := h_outD.kept hF 1 rfl (fsd (by omega))
  show V p l e room_1 s m args below meth cd Q 9 H1 lo1 kq nq 2870 [(5, .int (zI i)), (4, .ref (x + 340)), (3, .ref (x + 339)), (2, .ref (x + 334)), (1, .ref x), (0, .ref b)] [.int (zI (co 0 2)), .int (zI (co 0 2))]
  refine v_icmp_same X dL_law_2870 3555 (by decide) ?_
  refine v_widen (k' := kq + 60) (n' := nq + 4000) (by omega) (by omega) ?_
  exact V_pick [0, 1, 2, 3, 4, 5] rfl (kk _ _ hM ⟨hzl, _, _, _, _, _, _, _, _, _, _, _, _, _, _, _, _, _, _, _, _, _, _, _, _, _, _, _, _, ⟨h_cm, h_co, h_bf, h_sv, h_hi, h_hf, h_dk, h_se, h_pg, h_sb, h_sa, h_pr, h_ln, h_la, h_mo, h_out, h_outD⟩, hP0.mo_0⟩)
set_option maxHeartbeats 4000000 in
set_option maxRecDepth 20000 in
theorem lo_questionTotal (hl : l.stackTraces = false) (X : CF p m cd code 9 s args RL) (hX : va_X b Lx xs s s.heap) (hbl : b < s.heap.size) (hLx : Lx ≤ 2560) (hM : MS E [] s H lo) (hk : kq + 60 ≤ 603072) (hn : nq + 4000 ≤ 7211113) (hx : s.heap.size ≤ x) (hzl : x + 341 ≤ H.size) {v : Nat} {N : Nat} {f : Int → Int} {nn : Int} {v2 : Nat} {N2 : Nat} {f2 : Int → Int} {n2 : Int} {co : Nat → Int → Int} {bf : Nat → Int → Int} {cv : Nat → Int → Int} {hc : Nat → Nat → Int → Int} {nx : Int} {sz : Int} {hs : Int} {er : Int} {fa : Int} {ss : Int} {dk : Nat → Int → Int} {se : Nat → Int → Int} {po : Int} {si : Int} {pr : Nat → Int → Int} {ml : Int} {ml2 : Int} {mo : Nat → Int → Int} {lg : Nat → Int64} {dg : Nat → UInt64} (hW : LawW E x v N f nn v2 N2 f2 n2 co bf cv hc nx sz hs er fa ss dk se po si pr ml ml2 mo lg dg H) (hP : LawP x v N f nn v2 N2 f2 n2 co cv hc nx sz hs er fa ss po si pr mo) (i0 : 0 ≤ i) (i1 : i + 5 ≤ (Lx : Int)) (kk : ∀ (H1 : Heap) (lo1 : List Loc), MS E [] s H1 lo1 → LawI E x H1 → V p l e room_1 s m args below meth cd Q 9 H1 lo1 (kq + 60) (nq + 4000) 3555 [(5, .int (zI i)), (4, .ref (x + 340)), (3, .ref (x + 339)), (2, .ref (x + 334)), (1, .ref x), (0, .ref b)] []) : V p l e room_1 s m args below meth cd Q 9 H lo kq nq 2875 [(5, .int (zI i)), (4, .ref (x + 340)), (3, .ref (x + 339)), (2, .ref (x + 334)), (1, .ref x), (0, .ref b)] [] := by
  obtain ⟨h_cm, h_co, h_bf, h_sv, h_hi, h_hf, h_dk, h_se, h_pg, h_sb, h_sa, h_pr, h_ln, h_la, h_mo, h_out, h_outD⟩ := hW
  have hP0 := hP
  obtain ⟨⟨hD, hDv, hDh⟩, ⟨hRM, hch, hcs⟩, ⟨⟨n0, n1⟩, ⟨s0, s1⟩, hhs⟩, ⟨hm8, hnn, hAg, hNN, hnN, hf9⟩, ⟨T, hSB, hLT, hn38⟩, hPB, ⟨her, hfa, hss, ger, gfa, gss, gms⟩, ⟨gpo, gsi⟩, ⟨hv1, hv2, hvv⟩⟩ := hP
  have hO := hD.inv.ok
  have hI := hD.inv.ts
  have hSt := hD.inv.st
  have hS := hD.inv.sn
  have hR := hRM.1.2
  have hG := gp_inv hD
  have hb0 := hO.b0
  have hbw := hO.bw
  have hbf : ¬ Fr [] s.heap.size b := fun z => z.elim (fun q => q.elim) (fun q => by omega)
  refine v_aload_n X dL_law_2875 2876 rfl 4 rfl ?_
  refine v_rdV X hM.C (PW.app h_cm.1 h_co.1) (c_X9_questionTotal l E x co hs er fa ss hO) kvX9_questionTotal kiX9_questionTotal kl_L_349 rfl rfl (As := []) rfl rfl (rm_law0 rfl (by omega) (by omega)) dL_law_2876 2879 rfl ?_
  show V p l e room_1 s m args below meth cd Q 9 H lo kq nq 2879 [(5, .int (zI i)), (4, .ref (x + 340)), (3, .ref (x + 339)), (2, .ref (x + 334)), (1, .ref x), (0, .ref b)] [.int (zI (co 0 3))]
  refine v_aload_n X dL_law_2879 2880 rfl 3 rfl ?_
  refine v_muV X hM (h_mo.1) (c_X10_questionTotal l E (x + 334) mo co hO hR) kvX10_questionTotal kiX10_questionTotal kl_L_352 (q0 := 0) rfl rfl (As := []) rfl rfl (rm_law rfl (by omega) (by omega)) dL_law_2880 2883 rfl (k' := kq + 0) (n' := nq + 0) rfl rfl (fsI (fun q q1 q2 => (Or.inr (by omega)))) h_mo (fun rv H1 lo1 hM hF hpo => ?_)
  obtain ⟨rfl, hw_0⟩ := hpo
  have h_mo : PR E (x + 334) (modelW E (x + 334) (updC mo 0 (updZ (mo 0) 0 0))) H1 := hw_0
  replace hzl := Nat.le_trans hzl hF.1
  replace h_cm := h_cm.kept hF 1 rfl (fsd (by omega))
  replace h_co := h_co.kept hF 28 rfl (fsd (by omega))
  replace h_bf := h_bf.kept hF 28 rfl (fsd (by omega))
  replace h_sv := h_sv.kept hF 28 rfl (fsd (by omega))
  replace h_hi := h_hi.kept hF 2 rfl (fsd (by omega))
  replace h_hf := h_hf.kept hF (fsd (by omega))
  replace h_dk := h_dk.kept hF 3 rfl (fsd (by omega))
  replace h_se := h_se.kept hF 5 rfl (fsd (by omega))
  replace h_pg := h_pg.kept hF 1 rfl (fsd (by omega))
  replace h_sb := h_sb.kept hF 1 rfl (fsd (by omega))
  replace h_sa := h_sa.kept hF 1 rfl (fsd (by omega))
  replace h_pr := h_pr.kept hF 10 rfl (fsd (by omega))
  replace h_ln := h_ln.kept hF 1 rfl (fsd (by omega))
  replace h_la := h_la.kept hF 1 rfl (fsd (by omega))
  replace h_out := h_out.kept hF 1 rfl (fsd (by omega))
  replace h_outD := h_outD.kept hF 1 rfl (fsd (by omega))
  show V p l e room_1 s m args below meth cd Q 9 H1 lo1 kq nq 2883 [(5, .int (zI i)), (4, .ref (x + 340)), (3, .ref (x + 339)), (2, .ref (x + 334)), (1, .ref x), (0, .ref b)] [.int (zI (co 0 3)), .int (zI (co 0 3))]
  refine v_icmp_same X dL_law_2883 3555 (by decide) ?_
  refine v_widen (k' := kq + 60) (n' := nq + 4000) (by omega) (by omega) ?_
  exact V_pick [0, 1, 2, 3, 4, 5] rfl (kk _ _ hM ⟨hzl, _, _, _, _, _, _, _, _, _, _, _, _, _, _, _, _, _, _, _, _, _, _, _, _, _, _, _, _, ⟨h_cm, h_co, h_bf, h_sv, h_hi, h_hf, h_dk, h_se, h_pg, h_sb, h_sa, h_pr, h_ln, h_la, h_mo, h_out, h_outD⟩, hP0.mo_0⟩)
set_option maxHeartbeats 4000000 in
set_option maxRecDepth 20000 in
theorem lo_docketLength (hl : l.stackTraces = false) (X : CF p m cd code 9 s args RL) (hX : va_X b Lx xs s s.heap) (hbl : b < s.heap.size) (hLx : Lx ≤ 2560) (hM : MS E [] s H lo) (hk : kq + 60 ≤ 603072) (hn : nq + 4000 ≤ 7211113) (hx : s.heap.size ≤ x) (hzl : x + 341 ≤ H.size) {v : Nat} {N : Nat} {f : Int → Int} {nn : Int} {v2 : Nat} {N2 : Nat} {f2 : Int → Int} {n2 : Int} {co : Nat → Int → Int} {bf : Nat → Int → Int} {cv : Nat → Int → Int} {hc : Nat → Nat → Int → Int} {nx : Int} {sz : Int} {hs : Int} {er : Int} {fa : Int} {ss : Int} {dk : Nat → Int → Int} {se : Nat → Int → Int} {po : Int} {si : Int} {pr : Nat → Int → Int} {ml : Int} {ml2 : Int} {mo : Nat → Int → Int} {lg : Nat → Int64} {dg : Nat → UInt64} (hW : LawW E x v N f nn v2 N2 f2 n2 co bf cv hc nx sz hs er fa ss dk se po si pr ml ml2 mo lg dg H) (hP : LawP x v N f nn v2 N2 f2 n2 co cv hc nx sz hs er fa ss po si pr mo) (i0 : 0 ≤ i) (i1 : i + 5 ≤ (Lx : Int)) (kk : ∀ (H1 : Heap) (lo1 : List Loc), MS E [] s H1 lo1 → LawI E x H1 → V p l e room_1 s m args below meth cd Q 9 H1 lo1 (kq + 60) (nq + 4000) 3555 [(5, .int (zI i)), (4, .ref (x + 340)), (3, .ref (x + 339)), (2, .ref (x + 334)), (1, .ref x), (0, .ref b)] []) : V p l e room_1 s m args below meth cd Q 9 H lo kq nq 2711 [(5, .int (zI i)), (4, .ref (x + 340)), (3, .ref (x + 339)), (2, .ref (x + 334)), (1, .ref x), (0, .ref b)] [] := by
  obtain ⟨h_cm, h_co, h_bf, h_sv, h_hi, h_hf, h_dk, h_se, h_pg, h_sb, h_sa, h_pr, h_ln, h_la, h_mo, h_out, h_outD⟩ := hW
  have hP0 := hP
  obtain ⟨⟨hD, hDv, hDh⟩, ⟨hRM, hch, hcs⟩, ⟨⟨n0, n1⟩, ⟨s0, s1⟩, hhs⟩, ⟨hm8, hnn, hAg, hNN, hnN, hf9⟩, ⟨T, hSB, hLT, hn38⟩, hPB, ⟨her, hfa, hss, ger, gfa, gss, gms⟩, ⟨gpo, gsi⟩, ⟨hv1, hv2, hvv⟩⟩ := hP
  have hO := hD.inv.ok
  have hI := hD.inv.ts
  have hSt := hD.inv.st
  have hS := hD.inv.sn
  have hR := hRM.1.2
  have hG := gp_inv hD
  have hb0 := hO.b0
  have hbw := hO.bw
  have hbf : ¬ Fr [] s.heap.size b := fun z => z.elim (fun q => q.elim) (fun q => by omega)
  refine v_aload_n X dL_law_2711 2712 rfl 4 rfl ?_
  refine v_rdV X hM.C (PW.app h_cm.1 h_co.1) (c_X9_docketLength l E x co hs er fa ss hO) kvX9_docketLength kiX9_docketLength kl_L_327 rfl rfl (As := []) rfl rfl (rm_law0 rfl (by omega) (by omega)) dL_law_2712 2715 rfl ?_
  show V p l e room_1 s m args below meth cd Q 9 H lo kq nq 2715 [(5, .int (zI i)), (4, .ref (x + 340)), (3, .ref (x + 339)), (2, .ref (x + 334)), (1, .ref x), (0, .ref b)] [.int (zI (sumZ (fun j => bz (co 3 j = 0)) (co 0 0).toNat))]
  refine v_aload_n X dL_law_2715 2716 rfl 3 rfl ?_
  refine v_muV X hM (h_mo.1) (c_X10_docketLength l E (x + 334) mo co hO hR) kvX10_docketLength kiX10_docketLength kl_L_330 (q0 := 0) rfl rfl (As := []) rfl rfl (rm_law rfl (by omega) (by omega)) dL_law_2716 2719 rfl (k' := kq + 0) (n' := nq + 0) rfl rfl (fsI (fun q q1 q2 => (Or.inr (by omega)))) h_mo (fun rv H1 lo1 hM hF hpo => ?_)
  obtain ⟨rfl, hw_0⟩ := hpo
  have h_mo : PR E (x + 334) (modelW E (x + 334) (updC mo 0 (updZ (mo 0) 0 0))) H1 := hw_0
  replace hzl := Nat.le_trans hzl hF.1
  replace h_cm := h_cm.kept hF 1 rfl (fsd (by omega))
  replace h_co := h_co.kept hF 28 rfl (fsd (by omega))
  replace h_bf := h_bf.kept hF 28 rfl (fsd (by omega))
  replace h_sv := h_sv.kept hF 28 rfl (fsd (by omega))
  replace h_hi := h_hi.kept hF 2 rfl (fsd (by omega))
  replace h_hf := h_hf.kept hF (fsd (by omega))
  replace h_dk := h_dk.kept hF 3 rfl (fsd (by omega))
  replace h_se := h_se.kept hF 5 rfl (fsd (by omega))
  replace h_pg := h_pg.kept hF 1 rfl (fsd (by omega))
  replace h_sb := h_sb.kept hF 1 rfl (fsd (by omega))
  replace h_sa := h_sa.kept hF 1 rfl (fsd (by omega))
  replace h_pr := h_pr.kept hF 10 rfl (fsd (by omega))
  replace h_ln := h_ln.kept hF 1 rfl (fsd (by omega))
  replace h_la := h_la.kept hF 1 rfl (fsd (by omega))
  replace h_out := h_out.kept hF 1 rfl (fsd (by omega))
  replace h_outD := h_outD.kept hF 1 rfl (fsd (by omega))
  show V p l e room_1 s m args below meth cd Q 9 H1 lo1 kq nq 2719 [(5, .int (zI i)), (4, .ref (x + 340)), (3, .ref (x + 339)), (2, .ref (x + 334)), (1, .ref x), (0, .ref b)] [.int (zI (sumZ (fun j => bz (co 3 j = 0)) (co 0 0).toNat)), .int (zI (sumZ (fun j => bz (co 3 j = 0)) (co 0 0).toNat))]
  refine v_icmp_same X dL_law_2719 3555 (by decide) ?_
  refine v_widen (k' := kq + 60) (n' := nq + 4000) (by omega) (by omega) ?_
  exact V_pick [0, 1, 2, 3, 4, 5] rfl (kk _ _ hM ⟨hzl, _, _, _, _, _, _, _, _, _, _, _, _, _, _, _, _, _, _, _, _, _, _, _, _, _, _, _, _, ⟨h_cm, h_co, h_bf, h_sv, h_hi, h_hf, h_dk, h_se, h_pg, h_sb, h_sa, h_pr, h_ln, h_la, h_mo, h_out, h_outD⟩, hP0.mo_0⟩)
set_option maxHeartbeats 4000000 in
set_option maxRecDepth 20000 in
theorem lo_undoableCount (hl : l.stackTraces = false) (X : CF p m cd code 9 s args RL) (hX : va_X b Lx xs s s.heap) (hbl : b < s.heap.size) (hLx : Lx ≤ 2560) (hM : MS E [] s H lo) (hk : kq + 60 ≤ 603072) (hn : nq + 4000 ≤ 7211113) (hx : s.heap.size ≤ x) (hzl : x + 341 ≤ H.size) {v : Nat} {N : Nat} {f : Int → Int} {nn : Int} {v2 : Nat} {N2 : Nat} {f2 : Int → Int} {n2 : Int} {co : Nat → Int → Int} {bf : Nat → Int → Int} {cv : Nat → Int → Int} {hc : Nat → Nat → Int → Int} {nx : Int} {sz : Int} {hs : Int} {er : Int} {fa : Int} {ss : Int} {dk : Nat → Int → Int} {se : Nat → Int → Int} {po : Int} {si : Int} {pr : Nat → Int → Int} {ml : Int} {ml2 : Int} {mo : Nat → Int → Int} {lg : Nat → Int64} {dg : Nat → UInt64} (hW : LawW E x v N f nn v2 N2 f2 n2 co bf cv hc nx sz hs er fa ss dk se po si pr ml ml2 mo lg dg H) (hP : LawP x v N f nn v2 N2 f2 n2 co cv hc nx sz hs er fa ss po si pr mo) (i0 : 0 ≤ i) (i1 : i + 5 ≤ (Lx : Int)) (kk : ∀ (H1 : Heap) (lo1 : List Loc), MS E [] s H1 lo1 → LawI E x H1 → V p l e room_1 s m args below meth cd Q 9 H1 lo1 (kq + 60) (nq + 4000) 3555 [(5, .int (zI i)), (4, .ref (x + 340)), (3, .ref (x + 339)), (2, .ref (x + 334)), (1, .ref x), (0, .ref b)] []) : V p l e room_1 s m args below meth cd Q 9 H lo kq nq 3441 [(5, .int (zI i)), (4, .ref (x + 340)), (3, .ref (x + 339)), (2, .ref (x + 334)), (1, .ref x), (0, .ref b)] [] := by
  obtain ⟨h_cm, h_co, h_bf, h_sv, h_hi, h_hf, h_dk, h_se, h_pg, h_sb, h_sa, h_pr, h_ln, h_la, h_mo, h_out, h_outD⟩ := hW
  have hP0 := hP
  obtain ⟨⟨hD, hDv, hDh⟩, ⟨hRM, hch, hcs⟩, ⟨⟨n0, n1⟩, ⟨s0, s1⟩, hhs⟩, ⟨hm8, hnn, hAg, hNN, hnN, hf9⟩, ⟨T, hSB, hLT, hn38⟩, hPB, ⟨her, hfa, hss, ger, gfa, gss, gms⟩, ⟨gpo, gsi⟩, ⟨hv1, hv2, hvv⟩⟩ := hP
  have hO := hD.inv.ok
  have hI := hD.inv.ts
  have hSt := hD.inv.st
  have hS := hD.inv.sn
  have hR := hRM.1.2
  have hG := gp_inv hD
  have hb0 := hO.b0
  have hbw := hO.bw
  have hbf : ¬ Fr [] s.heap.size b := fun z => z.elim (fun q => q.elim) (fun q => by omega)
  refine v_aload_n X dL_law_3441 3442 rfl 4 rfl ?_
  refine v_rdV X hM.C (PW.app h_cm.1 h_hi.1) (c_X9_undoableCount l E x co hs er fa ss nx sz) kvX9_undoableCount kiX9_undoableCount kl_L_389 rfl rfl (As := []) rfl rfl (rm_law0 rfl (by omega) (by omega)) dL_law_3442 3445 rfl ?_
  show V p l e room_1 s m args below meth cd Q 9 H lo kq nq 3445 [(5, .int (zI i)), (4, .ref (x + 340)), (3, .ref (x + 339)), (2, .ref (x + 334)), (1, .ref x), (0, .ref b)] [.int (zI sz)]
  refine v_aload_n X dL_law_3445 3446 rfl 3 rfl ?_
  refine v_muV X hM (h_mo.1) (c_X10_undoableCount l E (x + 334) mo) kvX10_undoableCount kiX10_undoableCount kl_L_392 (q0 := 0) rfl rfl (As := []) rfl rfl (rm_law rfl (by omega) (by omega)) dL_law_3446 3449 rfl (k' := kq + 0) (n' := nq + 0) rfl rfl (fsI (fun q q1 q2 => (Or.inr (by omega)))) h_mo (fun rv H1 lo1 hM hF hpo => ?_)
  obtain ⟨rfl, hw_0⟩ := hpo
  have h_mo : PR E (x + 334) (modelW E (x + 334) (updC mo 0 (updZ (mo 0) 0 0))) H1 := hw_0
  replace hzl := Nat.le_trans hzl hF.1
  replace h_cm := h_cm.kept hF 1 rfl (fsd (by omega))
  replace h_co := h_co.kept hF 28 rfl (fsd (by omega))
  replace h_bf := h_bf.kept hF 28 rfl (fsd (by omega))
  replace h_sv := h_sv.kept hF 28 rfl (fsd (by omega))
  replace h_hi := h_hi.kept hF 2 rfl (fsd (by omega))
  replace h_hf := h_hf.kept hF (fsd (by omega))
  replace h_dk := h_dk.kept hF 3 rfl (fsd (by omega))
  replace h_se := h_se.kept hF 5 rfl (fsd (by omega))
  replace h_pg := h_pg.kept hF 1 rfl (fsd (by omega))
  replace h_sb := h_sb.kept hF 1 rfl (fsd (by omega))
  replace h_sa := h_sa.kept hF 1 rfl (fsd (by omega))
  replace h_pr := h_pr.kept hF 10 rfl (fsd (by omega))
  replace h_ln := h_ln.kept hF 1 rfl (fsd (by omega))
  replace h_la := h_la.kept hF 1 rfl (fsd (by omega))
  replace h_out := h_out.kept hF 1 rfl (fsd (by omega))
  replace h_outD := h_outD.kept hF 1 rfl (fsd (by omega))
  show V p l e room_1 s m args below meth cd Q 9 H1 lo1 kq nq 3449 [(5, .int (zI i)), (4, .ref (x + 340)), (3, .ref (x + 339)), (2, .ref (x + 334)), (1, .ref x), (0, .ref b)] [.int (zI (mo 0 2)), .int (zI sz)]
  refine V_S (st' := [.int (zI (mo 0 2)), .int (zI (mo 0 2))]) (by rw [show (sz : Int) = mo 0 2 from hch.symm]) ?_
  refine v_icmp_same X dL_law_3449 3555 (by decide) ?_
  refine v_widen (k' := kq + 60) (n' := nq + 4000) (by omega) (by omega) ?_
  exact V_pick [0, 1, 2, 3, 4, 5] rfl (kk _ _ hM ⟨hzl, _, _, _, _, _, _, _, _, _, _, _, _, _, _, _, _, _, _, _, _, _, _, _, _, _, _, _, _, ⟨h_cm, h_co, h_bf, h_sv, h_hi, h_hf, h_dk, h_se, h_pg, h_sb, h_sa, h_pr, h_ln, h_la, h_mo, h_out, h_outD⟩, hP0.mo_0⟩)
set_option maxHeartbeats 4000000 in
set_option maxRecDepth 20000 in
theorem lo_docketPosition (hl : l.stackTraces = false) (X : CF p m cd code 9 s args RL) (hX : va_X b Lx xs s s.heap) (hbl : b < s.heap.size) (hLx : Lx ≤ 2560) (hM : MS E [] s H lo) (hk : kq + 60 ≤ 603072) (hn : nq + 4000 ≤ 7211113) (hx : s.heap.size ≤ x) (hzl : x + 341 ≤ H.size) {v : Nat} {N : Nat} {f : Int → Int} {nn : Int} {v2 : Nat} {N2 : Nat} {f2 : Int → Int} {n2 : Int} {co : Nat → Int → Int} {bf : Nat → Int → Int} {cv : Nat → Int → Int} {hc : Nat → Nat → Int → Int} {nx : Int} {sz : Int} {hs : Int} {er : Int} {fa : Int} {ss : Int} {dk : Nat → Int → Int} {se : Nat → Int → Int} {po : Int} {si : Int} {pr : Nat → Int → Int} {ml : Int} {ml2 : Int} {mo : Nat → Int → Int} {lg : Nat → Int64} {dg : Nat → UInt64} (hW : LawW E x v N f nn v2 N2 f2 n2 co bf cv hc nx sz hs er fa ss dk se po si pr ml ml2 mo lg dg H) (hP : LawP x v N f nn v2 N2 f2 n2 co cv hc nx sz hs er fa ss po si pr mo) (i0 : 0 ≤ i) (i1 : i + 5 ≤ (Lx : Int)) {a1 : Int} (ha1 : (xs (i + 1).toNat).toInt = a1) (ga1 : Rg a1) (q0 : 0 ≤ a1 ∧ a1 < co 0 0) (q1 : co 3 a1 = 0) (kk : ∀ (H1 : Heap) (lo1 : List Loc), MS E [] s H1 lo1 → LawI E x H1 → V p l e room_1 s m args below meth cd Q 9 H1 lo1 (kq + 60) (nq + 4000) 3555 [(5, .int (zI i)), (4, .ref (x + 340)), (3, .ref (x + 339)), (2, .ref (x + 334)), (1, .ref x), (0, .ref b)] []) : V p l e room_1 s m args below meth cd Q 9 H lo kq nq 2780 [(5, .int (zI i)), (4, .ref (x + 340)), (3, .ref (x + 339)), (2, .ref (x + 334)), (1, .ref x), (0, .ref b)] [] := by
  obtain ⟨h_cm, h_co, h_bf, h_sv, h_hi, h_hf, h_dk, h_se, h_pg, h_sb, h_sa, h_pr, h_ln, h_la, h_mo, h_out, h_outD⟩ := hW
  have hP0 := hP
  obtain ⟨⟨hD, hDv, hDh⟩, ⟨hRM, hch, hcs⟩, ⟨⟨n0, n1⟩, ⟨s0, s1⟩, hhs⟩, ⟨hm8, hnn, hAg, hNN, hnN, hf9⟩, ⟨T, hSB, hLT, hn38⟩, hPB, ⟨her, hfa, hss, ger, gfa, gss, gms⟩, ⟨gpo, gsi⟩, ⟨hv1, hv2, hvv⟩⟩ := hP
  have hO := hD.inv.ok
  have hI := hD.inv.ts
  have hSt := hD.inv.st
  have hS := hD.inv.sn
  have hR := hRM.1.2
  have hG := gp_inv hD
  have hb0 := hO.b0
  have hbw := hO.bw
  have hbf : ¬ Fr [] s.heap.size b := fun z => z.elim (fun q => q.elim) (fun q => by omega)
  refine v_aload_n X dL_law_2780 2781 rfl 4 rfl ?_
  refine v_aload_n X dL_law_2781 2782 rfl 5 rfl ?_
  refine v_iload X dL_law_2782 2784 rfl 0 rfl ?_
  refine v_iconst X dL_law_2784 2785 rfl ?_
  refine v_iadd X dL_law_2785 2786 rfl ?_
  refine v_scr X hM hX hbl hbf (by omega) (by omega) hLx ha1 dL_law_2786 2787 rfl ?_
  refine v_aload_n X dL_law_2787 2788 rfl 2 rfl ?_
  refine v_mwS X hM (w_X9_docketPosition l hl E x co hs er fa ss a1 (x + 339) lg hO ga1 q0 q1 (by omega) (by omega)) kwL_docketPosition ksL_docketPosition kl_L_334 (As := [.ref x, .int (zI a1), .ref (x + 339)]) rfl rfl (rm_lawW rfl (by omega) (by omega)) dL_law_2788 2791 rfl (k' := kq + 1) (n' := nq + 6) rfl rfl (fsI (fun q q1 q2 => (Or.inr (by omega)))) ⟨h_cm, h_co, h_out⟩ (fun rv H1 lo1 hM hF hpo => ?_)
  obtain ⟨rfl, hw_0⟩ := hpo
  have h_out : PR E (x + 339) [(x + 339, .inl (E 102 4, 1, .inr (.inl (fun _ => zL (sumZ (fun j => bz (co 3 j = 0 ∧ cbC co j a1)) (co 0 0).toNat)))))] H1 := hw_0
  replace hzl := Nat.le_trans hzl hF.1
  replace h_cm := h_cm.kept hF 1 rfl (fsd (by omega))
  replace h_co := h_co.kept hF 28 rfl (fsd (by omega))
  replace h_bf := h_bf.kept hF 28 rfl (fsd (by omega))
  replace h_sv := h_sv.kept hF 28 rfl (fsd (by omega))
  replace h_hi := h_hi.kept hF 2 rfl (fsd (by omega))
  replace h_hf := h_hf.kept hF (fsd (by omega))
  replace h_dk := h_dk.kept hF 3 rfl (fsd (by omega))
  replace h_se := h_se.kept hF 5 rfl (fsd (by omega))
  replace h_pg := h_pg.kept hF 1 rfl (fsd (by omega))
  replace h_sb := h_sb.kept hF 1 rfl (fsd (by omega))
  replace h_sa := h_sa.kept hF 1 rfl (fsd (by omega))
  replace h_pr := h_pr.kept hF 10 rfl (fsd (by omega))
  replace h_ln := h_ln.kept hF 1 rfl (fsd (by omega))
  replace h_la := h_la.kept hF 1 rfl (fsd (by omega))
  replace h_mo := h_mo.kept hF 5 rfl (fsd (by omega))
  replace h_outD := h_outD.kept hF 1 rfl (fsd (by omega))
  show V p l e room_1 s m args below meth cd Q 9 H1 lo1 (kq + 1) (nq + 6) 2791 [(5, .int (zI i)), (4, .ref (x + 340)), (3, .ref (x + 339)), (2, .ref (x + 334)), (1, .ref x), (0, .ref b)] [.int (zI 0)]
  refine v_istore X dL_law_2791 2793 rfl (by decide) (L' := [(6, .int (zI 0)), (5, .int (zI i)), (4, .ref (x + 340)), (3, .ref (x + 339)), (2, .ref (x + 334)), (1, .ref x), (0, .ref b)]) rfl ?_
  refine v_aload_n X dL_law_2793 2794 rfl 4 rfl ?_
  refine v_aload_n X dL_law_2794 2795 rfl 6 rfl ?_
  refine v_iload X dL_law_2795 2797 rfl 1 rfl ?_
  refine v_iconst X dL_law_2797 2798 rfl ?_
  refine v_iadd X dL_law_2798 2799 rfl ?_
  refine v_scr X hM hX hbl hbf (by omega) (by omega) hLx ha1 dL_law_2799 2800 rfl ?_
  refine v_muV X hM (h_mo.1) (c_X10_docketPosition l E (x + 334) mo co a1 hO hR ga1 q0 q1) kvX10_docketPosition kiX10_docketPosition kl_L_336 (q0 := 0) rfl rfl (As := [.int (zI a1)]) rfl rfl (rm_law rfl (by omega) (by omega)) dL_law_2800 2803 rfl (k' := kq + 1) (n' := nq + 6) rfl rfl (fsI (fun q q1 q2 => (Or.inr (by omega)))) h_mo (fun rv H2 lo2 hM hF hpo => ?_)
  obtain ⟨rfl, hw_0⟩ := hpo
  have h_mo : PR E (x + 334) (modelW E (x + 334) (updC mo 0 (updZ (mo 0) 0 0))) H2 := hw_0
  replace hzl := Nat.le_trans hzl hF.1
  replace h_cm := h_cm.kept hF 1 rfl (fsd (by omega))
  replace h_co := h_co.kept hF 28 rfl (fsd (by omega))
  replace h_bf := h_bf.kept hF 28 rfl (fsd (by omega))
  replace h_sv := h_sv.kept hF 28 rfl (fsd (by omega))
  replace h_hi := h_hi.kept hF 2 rfl (fsd (by omega))
  replace h_hf := h_hf.kept hF (fsd (by omega))
  replace h_dk := h_dk.kept hF 3 rfl (fsd (by omega))
  replace h_se := h_se.kept hF 5 rfl (fsd (by omega))
  replace h_pg := h_pg.kept hF 1 rfl (fsd (by omega))
  replace h_sb := h_sb.kept hF 1 rfl (fsd (by omega))
  replace h_sa := h_sa.kept hF 1 rfl (fsd (by omega))
  replace h_pr := h_pr.kept hF 10 rfl (fsd (by omega))
  replace h_ln := h_ln.kept hF 1 rfl (fsd (by omega))
  replace h_la := h_la.kept hF 1 rfl (fsd (by omega))
  replace h_out := h_out.kept hF 1 rfl (fsd (by omega))
  replace h_outD := h_outD.kept hF 1 rfl (fsd (by omega))
  show V p l e room_1 s m args below meth cd Q 9 H2 lo2 (kq + 1) (nq + 6) 2803 [(6, .int (zI 0)), (5, .int (zI i)), (4, .ref (x + 340)), (3, .ref (x + 339)), (2, .ref (x + 334)), (1, .ref x), (0, .ref b)] [.int (zI (sumZ (fun j => bz (co 3 j = 0 ∧ cbC co j a1)) (co 0 0).toNat))]
  refine v_istore X dL_law_2803 2805 rfl (by decide) (L' := [(7, .int (zI (sumZ (fun j => bz (co 3 j = 0 ∧ cbC co j a1)) (co 0 0).toNat))), (6, .int (zI 0)), (5, .int (zI i)), (4, .ref (x + 340)), (3, .ref (x + 339)), (2, .ref (x + 334)), (1, .ref x), (0, .ref b)]) rfl ?_
  refine v_aload_n X dL_law_2805 2806 rfl 5 rfl ?_
  refine v_rdV X hM.C h_mo.1 (c_X10_thrown l E (x + 334) (updC mo 0 (updZ (mo 0) 0 0))) kvX10_thrown kiX10_thrown kl_L_196 rfl rfl (As := []) rfl rfl (rm_law0 rfl (by omega) (by omega)) dL_law_2806 2809 rfl ?_
  show V p l e room_1 s m args below meth cd Q 9 H2 lo2 (kq + 1) (nq + 6) 2809 [(7, .int (zI (sumZ (fun j => bz (co 3 j = 0 ∧ cbC co j a1)) (co 0 0).toNat))), (6, .int (zI 0)), (5, .int (zI i)), (4, .ref (x + 340)), (3, .ref (x + 339)), (2, .ref (x + 334)), (1, .ref x), (0, .ref b)] [.int (zI 0)]
  refine v_iload X dL_law_2809 2811 rfl 1 rfl ?_
  refine v_icmp_eq X (by omega) (by omega) dL_law_2811 2814 2816 rfl (by decide) (fun c_3 => ?_) (fun c_3 => ?_)
  · skip
    refine v_iload X dL_law_2816 2818 rfl 1 rfl ?_
    refine v_if_ne X (by omega) dL_law_2818 2821 2833 rfl (by decide) (fun c_4 => ?_) (fun c_4 => ?_)
    · skip
      exfalso; omega
    · skip
      refine v_aload_n X dL_law_2821 2822 rfl 4 rfl ?_
      refine v_iconst X dL_law_2822 2823 rfl ?_
      refine v_lald X hM.C h_out.1 0 rfl dL_law_2823 2824 rfl ?_
      show V p l e room_1 s m args below meth cd Q 9 H2 lo2 (kq + 1) (nq + 6) 2824 [(7, .int (zI (sumZ (fun j => bz (co 3 j = 0 ∧ cbC co j a1)) (co 0 0).toNat))), (6, .int (zI 0)), (5, .int (zI i)), (4, .ref (x + 340)), (3, .ref (x + 339)), (2, .ref (x + 334)), (1, .ref x), (0, .ref b)] [.long (zL (sumZ (fun j => bz (co 3 j = 0 ∧ cbC co j a1)) (co 0 0).toNat))]
      refine v_iload X dL_law_2824 2826 rfl 0 rfl ?_
      refine v_i2l X dL_law_2826 2827 rfl ?_
      refine v_lcmp0 X dL_law_2827 2828 rfl ?_
      refine v_if_eq X (by omega) dL_law_2828 2831 2833 rfl (by decide) (fun c_5 => ?_) (fun c_5 => ?_)
      · skip
        refine v_goto X dL_law_2833 3555 (by decide) ?_
        refine v_widen (k' := kq + 60) (n' := nq + 4000) (by omega) (by omega) ?_
        exact V_pick [2, 3, 4, 5, 6, 7] rfl (kk _ _ hM ⟨hzl, _, _, _, _, _, _, _, _, _, _, _, _, _, _, _, _, _, _, _, _, _, _, _, _, _, _, _, _, ⟨h_cm, h_co, h_bf, h_sv, h_hi, h_hf, h_dk, h_se, h_pg, h_sb, h_sa, h_pr, h_ln, h_la, h_mo, h_out, h_outD⟩, hP0.mo_0⟩)
      · skip
        exfalso; omega
  · skip
    exfalso; omega
set_option maxHeartbeats 4000000 in
set_option maxRecDepth 20000 in
theorem lo_docketPosition_1 (hl : l.stackTraces = false) (X : CF p m cd code 9 s args RL) (hX : va_X b Lx xs s s.heap) (hbl : b < s.heap.size) (hLx : Lx ≤ 2560) (hM : MS E [] s H lo) (hk : kq + 60 ≤ 603072) (hn : nq + 4000 ≤ 7211113) (hx : s.heap.size ≤ x) (hzl : x + 341 ≤ H.size) {v : Nat} {N : Nat} {f : Int → Int} {nn : Int} {v2 : Nat} {N2 : Nat} {f2 : Int → Int} {n2 : Int} {co : Nat → Int → Int} {bf : Nat → Int → Int} {cv : Nat → Int → Int} {hc : Nat → Nat → Int → Int} {nx : Int} {sz : Int} {hs : Int} {er : Int} {fa : Int} {ss : Int} {dk : Nat → Int → Int} {se : Nat → Int → Int} {po : Int} {si : Int} {pr : Nat → Int → Int} {ml : Int} {ml2 : Int} {mo : Nat → Int → Int} {lg : Nat → Int64} {dg : Nat → UInt64} (hW : LawW E x v N f nn v2 N2 f2 n2 co bf cv hc nx sz hs er fa ss dk se po si pr ml ml2 mo lg dg H) (hP : LawP x v N f nn v2 N2 f2 n2 co cv hc nx sz hs er fa ss po si pr mo) (i0 : 0 ≤ i) (i1 : i + 5 ≤ (Lx : Int)) {a1 : Int} (ha1 : (xs (i + 1).toNat).toInt = a1) (ga1 : Rg a1) (q0 : ¬ (0 ≤ a1 ∧ a1 < co 0 0)) (kk : ∀ (H1 : Heap) (lo1 : List Loc), MS E [] s H1 lo1 → LawI E x H1 → V p l e room_1 s m args below meth cd Q 9 H1 lo1 (kq + 60) (nq + 4000) 3555 [(5, .int (zI i)), (4, .ref (x + 340)), (3, .ref (x + 339)), (2, .ref (x + 334)), (1, .ref x), (0, .ref b)] []) : V p l e room_1 s m args below meth cd Q 9 H lo kq nq 2780 [(5, .int (zI i)), (4, .ref (x + 340)), (3, .ref (x + 339)), (2, .ref (x + 334)), (1, .ref x), (0, .ref b)] [] := by
  obtain ⟨h_cm, h_co, h_bf, h_sv, h_hi, h_hf, h_dk, h_se, h_pg, h_sb, h_sa, h_pr, h_ln, h_la, h_mo, h_out, h_outD⟩ := hW
  have hP0 := hP
  obtain ⟨⟨hD, hDv, hDh⟩, ⟨hRM, hch, hcs⟩, ⟨⟨n0, n1⟩, ⟨s0, s1⟩, hhs⟩, ⟨hm8, hnn, hAg, hNN, hnN, hf9⟩, ⟨T, hSB, hLT, hn38⟩, hPB, ⟨her, hfa, hss, ger, gfa, gss, gms⟩, ⟨gpo, gsi⟩, ⟨hv1, hv2, hvv⟩⟩ := hP
  have hO := hD.inv.ok
  have hI := hD.inv.ts
  have hSt := hD.inv.st
  have hS := hD.inv.sn
  have hR := hRM.1.2
  have hG := gp_inv hD
  have hb0 := hO.b0
  have hbw := hO.bw
  have hbf : ¬ Fr [] s.heap.size b := fun z => z.elim (fun q => q.elim) (fun q => by omega)
  refine v_aload_n X dL_law_2780 2781 rfl 4 rfl ?_
  refine v_aload_n X dL_law_2781 2782 rfl 5 rfl ?_
  refine v_iload X dL_law_2782 2784 rfl 0 rfl ?_
  refine v_iconst X dL_law_2784 2785 rfl ?_
  refine v_iadd X dL_law_2785 2786 rfl ?_
  refine v_scr X hM hX hbl hbf (by omega) (by omega) hLx ha1 dL_law_2786 2787 rfl ?_
  refine v_aload_n X dL_law_2787 2788 rfl 2 rfl ?_
  refine v_mwS X hM (w_X9_docketPosition_0_t l hl E x co hs er fa ss a1 (x + 339) lg hO ga1 q0) kwL_docketPosition ksL_docketPosition kl_L_334 (As := [.ref x, .int (zI a1), .ref (x + 339)]) rfl rfl (rm_lawW rfl (by omega) (by omega)) dL_law_2788 2791 rfl (k' := kq + 1) (n' := nq + 6) rfl rfl (fun q hq => hq.elim) ⟨h_cm, h_co, h_out⟩ (fun rv H1 lo1 hM hF hpo => ?_)
  subst hpo
  replace hzl := Nat.le_trans hzl hF.1
  replace h_cm := h_cm.kept hF 1 rfl (fun q _ _ h => h.elim)
  replace h_co := h_co.kept hF 28 rfl (fun q _ _ h => h.elim)
  replace h_bf := h_bf.kept hF 28 rfl (fun q _ _ h => h.elim)
  replace h_sv := h_sv.kept hF 28 rfl (fun q _ _ h => h.elim)
  replace h_hi := h_hi.kept hF 2 rfl (fun q _ _ h => h.elim)
  replace h_hf := h_hf.kept hF (fun q _ _ h => h.elim)
  replace h_dk := h_dk.kept hF 3 rfl (fun q _ _ h => h.elim)
  replace h_se := h_se.kept hF 5 rfl (fun q _ _ h => h.elim)
  replace h_pg := h_pg.kept hF 1 rfl (fun q _ _ h => h.elim)
  replace h_sb := h_sb.kept hF 1 rfl (fun q _ _ h => h.elim)
  replace h_sa := h_sa.kept hF 1 rfl (fun q _ _ h => h.elim)
  replace h_pr := h_pr.kept hF 10 rfl (fun q _ _ h => h.elim)
  replace h_ln := h_ln.kept hF 1 rfl (fun q _ _ h => h.elim)
  replace h_la := h_la.kept hF 1 rfl (fun q _ _ h => h.elim)
  replace h_mo := h_mo.kept hF 5 rfl (fun q _ _ h => h.elim)
  replace h_out := h_out.kept hF 1 rfl (fun q _ _ h => h.elim)
  replace h_outD := h_outD.kept hF 1 rfl (fun q _ _ h => h.elim)
  show V p l e room_1 s m args below meth cd Q 9 H1 lo1 (kq + 1) (nq + 6) 2791 [(5, .int (zI i)), (4, .ref (x + 340)), (3, .ref (x + 339)), (2, .ref (x + 334)), (1, .ref x), (0, .ref b)] [.int (zI 1)]
  refine v_istore X dL_law_2791 2793 rfl (by decide) (L' := [(6, .int (zI 1)), (5, .int (zI i)), (4, .ref (x + 340)), (3, .ref (x + 339)), (2, .ref (x + 334)), (1, .ref x), (0, .ref b)]) rfl ?_
  refine v_aload_n X dL_law_2793 2794 rfl 4 rfl ?_
  refine v_aload_n X dL_law_2794 2795 rfl 6 rfl ?_
  refine v_iload X dL_law_2795 2797 rfl 1 rfl ?_
  refine v_iconst X dL_law_2797 2798 rfl ?_
  refine v_iadd X dL_law_2798 2799 rfl ?_
  refine v_scr X hM hX hbl hbf (by omega) (by omega) hLx ha1 dL_law_2799 2800 rfl ?_
  refine v_muV X hM (h_mo.1) (c_X10_docketPosition_0 l E (x + 334) mo co a1 hO hR ga1 q0) kvX10_docketPosition kiX10_docketPosition kl_L_336 (q0 := 0) rfl rfl (As := [.int (zI a1)]) rfl rfl (rm_law rfl (by omega) (by omega)) dL_law_2800 2803 rfl (k' := kq + 1) (n' := nq + 6) rfl rfl (fsI (fun q q1 q2 => (Or.inr (by omega)))) h_mo (fun rv H2 lo2 hM hF hpo => ?_)
  obtain ⟨rfl, hw_0⟩ := hpo
  have h_mo : PR E (x + 334) (modelW E (x + 334) (updC mo 0 (updZ (mo 0) 0 1))) H2 := hw_0
  replace hzl := Nat.le_trans hzl hF.1
  replace h_cm := h_cm.kept hF 1 rfl (fsd (by omega))
  replace h_co := h_co.kept hF 28 rfl (fsd (by omega))
  replace h_bf := h_bf.kept hF 28 rfl (fsd (by omega))
  replace h_sv := h_sv.kept hF 28 rfl (fsd (by omega))
  replace h_hi := h_hi.kept hF 2 rfl (fsd (by omega))
  replace h_hf := h_hf.kept hF (fsd (by omega))
  replace h_dk := h_dk.kept hF 3 rfl (fsd (by omega))
  replace h_se := h_se.kept hF 5 rfl (fsd (by omega))
  replace h_pg := h_pg.kept hF 1 rfl (fsd (by omega))
  replace h_sb := h_sb.kept hF 1 rfl (fsd (by omega))
  replace h_sa := h_sa.kept hF 1 rfl (fsd (by omega))
  replace h_pr := h_pr.kept hF 10 rfl (fsd (by omega))
  replace h_ln := h_ln.kept hF 1 rfl (fsd (by omega))
  replace h_la := h_la.kept hF 1 rfl (fsd (by omega))
  replace h_out := h_out.kept hF 1 rfl (fsd (by omega))
  replace h_outD := h_outD.kept hF 1 rfl (fsd (by omega))
  show V p l e room_1 s m args below meth cd Q 9 H2 lo2 (kq + 1) (nq + 6) 2803 [(6, .int (zI 1)), (5, .int (zI i)), (4, .ref (x + 340)), (3, .ref (x + 339)), (2, .ref (x + 334)), (1, .ref x), (0, .ref b)] [.int (zI 0)]
  refine v_istore X dL_law_2803 2805 rfl (by decide) (L' := [(7, .int (zI 0)), (6, .int (zI 1)), (5, .int (zI i)), (4, .ref (x + 340)), (3, .ref (x + 339)), (2, .ref (x + 334)), (1, .ref x), (0, .ref b)]) rfl ?_
  refine v_aload_n X dL_law_2805 2806 rfl 5 rfl ?_
  refine v_rdV X hM.C h_mo.1 (c_X10_thrown l E (x + 334) (updC mo 0 (updZ (mo 0) 0 1))) kvX10_thrown kiX10_thrown kl_L_196 rfl rfl (As := []) rfl rfl (rm_law0 rfl (by omega) (by omega)) dL_law_2806 2809 rfl ?_
  show V p l e room_1 s m args below meth cd Q 9 H2 lo2 (kq + 1) (nq + 6) 2809 [(7, .int (zI 0)), (6, .int (zI 1)), (5, .int (zI i)), (4, .ref (x + 340)), (3, .ref (x + 339)), (2, .ref (x + 334)), (1, .ref x), (0, .ref b)] [.int (zI 1)]
  refine v_iload X dL_law_2809 2811 rfl 1 rfl ?_
  refine v_icmp_eq X (by omega) (by omega) dL_law_2811 2814 2816 rfl (by decide) (fun c_3 => ?_) (fun c_3 => ?_)
  · skip
    refine v_iload X dL_law_2816 2818 rfl 1 rfl ?_
    refine v_if_ne X (by omega) dL_law_2818 2821 2833 rfl (by decide) (fun c_4 => ?_) (fun c_4 => ?_)
    · skip
      refine v_goto X dL_law_2833 3555 (by decide) ?_
      refine v_widen (k' := kq + 60) (n' := nq + 4000) (by omega) (by omega) ?_
      exact V_pick [2, 3, 4, 5, 6, 7] rfl (kk _ _ hM ⟨hzl, _, _, _, _, _, _, _, _, _, _, _, _, _, _, _, _, _, _, _, _, _, _, _, _, _, _, _, _, ⟨h_cm, h_co, h_bf, h_sv, h_hi, h_hf, h_dk, h_se, h_pg, h_sb, h_sa, h_pr, h_ln, h_la, h_mo, h_out, h_outD⟩, hP0.mo_0⟩)
    · skip
      exfalso; omega
  · skip
    exfalso; omega
set_option maxHeartbeats 4000000 in
set_option maxRecDepth 20000 in
theorem lo_docketPosition_2 (hl : l.stackTraces = false) (X : CF p m cd code 9 s args RL) (hX : va_X b Lx xs s s.heap) (hbl : b < s.heap.size) (hLx : Lx ≤ 2560) (hM : MS E [] s H lo) (hk : kq + 60 ≤ 603072) (hn : nq + 4000 ≤ 7211113) (hx : s.heap.size ≤ x) (hzl : x + 341 ≤ H.size) {v : Nat} {N : Nat} {f : Int → Int} {nn : Int} {v2 : Nat} {N2 : Nat} {f2 : Int → Int} {n2 : Int} {co : Nat → Int → Int} {bf : Nat → Int → Int} {cv : Nat → Int → Int} {hc : Nat → Nat → Int → Int} {nx : Int} {sz : Int} {hs : Int} {er : Int} {fa : Int} {ss : Int} {dk : Nat → Int → Int} {se : Nat → Int → Int} {po : Int} {si : Int} {pr : Nat → Int → Int} {ml : Int} {ml2 : Int} {mo : Nat → Int → Int} {lg : Nat → Int64} {dg : Nat → UInt64} (hW : LawW E x v N f nn v2 N2 f2 n2 co bf cv hc nx sz hs er fa ss dk se po si pr ml ml2 mo lg dg H) (hP : LawP x v N f nn v2 N2 f2 n2 co cv hc nx sz hs er fa ss po si pr mo) (i0 : 0 ≤ i) (i1 : i + 5 ≤ (Lx : Int)) {a1 : Int} (ha1 : (xs (i + 1).toNat).toInt = a1) (ga1 : Rg a1) (q0 : 0 ≤ a1 ∧ a1 < co 0 0) (q1 : ¬ (co 3 a1 = 0)) (kk : ∀ (H1 : Heap) (lo1 : List Loc), MS E [] s H1 lo1 → LawI E x H1 → V p l e room_1 s m args below meth cd Q 9 H1 lo1 (kq + 60) (nq + 4000) 3555 [(5, .int (zI i)), (4, .ref (x + 340)), (3, .ref (x + 339)), (2, .ref (x + 334)), (1, .ref x), (0, .ref b)] []) : V p l e room_1 s m args below meth cd Q 9 H lo kq nq 2780 [(5, .int (zI i)), (4, .ref (x + 340)), (3, .ref (x + 339)), (2, .ref (x + 334)), (1, .ref x), (0, .ref b)] [] := by
  obtain ⟨h_cm, h_co, h_bf, h_sv, h_hi, h_hf, h_dk, h_se, h_pg, h_sb, h_sa, h_pr, h_ln, h_la, h_mo, h_out, h_outD⟩ := hW
  have hP0 := hP
  obtain ⟨⟨hD, hDv, hDh⟩, ⟨hRM, hch, hcs⟩, ⟨⟨n0, n1⟩, ⟨s0, s1⟩, hhs⟩, ⟨hm8, hnn, hAg, hNN, hnN, hf9⟩, ⟨T, hSB, hLT, hn38⟩, hPB, ⟨her, hfa, hss, ger, gfa, gss, gms⟩, ⟨gpo, gsi⟩, ⟨hv1, hv2, hvv⟩⟩ := hP
  have hO := hD.inv.ok
  have hI := hD.inv.ts
  have hSt := hD.inv.st
  have hS := hD.inv.sn
  have hR := hRM.1.2
  have hG := gp_inv hD
  have hb0 := hO.b0
  have hbw := hO.bw
  have hbf : ¬ Fr [] s.heap.size b := fun z => z.elim (fun q => q.elim) (fun q => by omega)
  refine v_aload_n X dL_law_2780 2781 rfl 4 rfl ?_
  refine v_aload_n X dL_law_2781 2782 rfl 5 rfl ?_
  refine v_iload X dL_law_2782 2784 rfl 0 rfl ?_
  refine v_iconst X dL_law_2784 2785 rfl ?_
  refine v_iadd X dL_law_2785 2786 rfl ?_
  refine v_scr X hM hX hbl hbf (by omega) (by omega) hLx ha1 dL_law_2786 2787 rfl ?_
  refine v_aload_n X dL_law_2787 2788 rfl 2 rfl ?_
  refine v_mwS X hM (w_X9_docketPosition_1_t l hl E x co hs er fa ss a1 (x + 339) lg hO ga1 q0 q1) kwL_docketPosition ksL_docketPosition kl_L_334 (As := [.ref x, .int (zI a1), .ref (x + 339)]) rfl rfl (rm_lawW rfl (by omega) (by omega)) dL_law_2788 2791 rfl (k' := kq + 1) (n' := nq + 6) rfl rfl (fun q hq => hq.elim) ⟨h_cm, h_co, h_out⟩ (fun rv H1 lo1 hM hF hpo => ?_)
  subst hpo
  replace hzl := Nat.le_trans hzl hF.1
  replace h_cm := h_cm.kept hF 1 rfl (fun q _ _ h => h.elim)
  replace h_co := h_co.kept hF 28 rfl (fun q _ _ h => h.elim)
  replace h_bf := h_bf.kept hF 28 rfl (fun q _ _ h => h.elim)
  replace h_sv := h_sv.kept hF 28 rfl (fun q _ _ h => h.elim)
  replace h_hi := h_hi.kept hF 2 rfl (fun q _ _ h => h.elim)
  replace h_hf := h_hf.kept hF (fun q _ _ h => h.elim)
  replace h_dk := h_dk.kept hF 3 rfl (fun q _ _ h => h.elim)
  replace h_se := h_se.kept hF 5 rfl (fun q _ _ h => h.elim)
  replace h_pg := h_pg.kept hF 1 rfl (fun q _ _ h => h.elim)
  replace h_sb := h_sb.kept hF 1 rfl (fun q _ _ h => h.elim)
  replace h_sa := h_sa.kept hF 1 rfl (fun q _ _ h => h.elim)
  replace h_pr := h_pr.kept hF 10 rfl (fun q _ _ h => h.elim)
  replace h_ln := h_ln.kept hF 1 rfl (fun q _ _ h => h.elim)
  replace h_la := h_la.kept hF 1 rfl (fun q _ _ h => h.elim)
  replace h_mo := h_mo.kept hF 5 rfl (fun q _ _ h => h.elim)
  replace h_out := h_out.kept hF 1 rfl (fun q _ _ h => h.elim)
  replace h_outD := h_outD.kept hF 1 rfl (fun q _ _ h => h.elim)
  show V p l e room_1 s m args below meth cd Q 9 H1 lo1 (kq + 1) (nq + 6) 2791 [(5, .int (zI i)), (4, .ref (x + 340)), (3, .ref (x + 339)), (2, .ref (x + 334)), (1, .ref x), (0, .ref b)] [.int (zI 2)]
  refine v_istore X dL_law_2791 2793 rfl (by decide) (L' := [(6, .int (zI 2)), (5, .int (zI i)), (4, .ref (x + 340)), (3, .ref (x + 339)), (2, .ref (x + 334)), (1, .ref x), (0, .ref b)]) rfl ?_
  refine v_aload_n X dL_law_2793 2794 rfl 4 rfl ?_
  refine v_aload_n X dL_law_2794 2795 rfl 6 rfl ?_
  refine v_iload X dL_law_2795 2797 rfl 1 rfl ?_
  refine v_iconst X dL_law_2797 2798 rfl ?_
  refine v_iadd X dL_law_2798 2799 rfl ?_
  refine v_scr X hM hX hbl hbf (by omega) (by omega) hLx ha1 dL_law_2799 2800 rfl ?_
  refine v_muV X hM (h_mo.1) (c_X10_docketPosition_1 l E (x + 334) mo co a1 hO hR ga1 q0 q1) kvX10_docketPosition kiX10_docketPosition kl_L_336 (q0 := 0) rfl rfl (As := [.int (zI a1)]) rfl rfl (rm_law rfl (by omega) (by omega)) dL_law_2800 2803 rfl (k' := kq + 1) (n' := nq + 6) rfl rfl (fsI (fun q q1 q2 => (Or.inr (by omega)))) h_mo (fun rv H2 lo2 hM hF hpo => ?_)
  obtain ⟨rfl, hw_0⟩ := hpo
  have h_mo : PR E (x + 334) (modelW E (x + 334) (updC mo 0 (updZ (mo 0) 0 2))) H2 := hw_0
  replace hzl := Nat.le_trans hzl hF.1
  replace h_cm := h_cm.kept hF 1 rfl (fsd (by omega))
  replace h_co := h_co.kept hF 28 rfl (fsd (by omega))
  replace h_bf := h_bf.kept hF 28 rfl (fsd (by omega))
  replace h_sv := h_sv.kept hF 28 rfl (fsd (by omega))
  replace h_hi := h_hi.kept hF 2 rfl (fsd (by omega))
  replace h_hf := h_hf.kept hF (fsd (by omega))
  replace h_dk := h_dk.kept hF 3 rfl (fsd (by omega))
  replace h_se := h_se.kept hF 5 rfl (fsd (by omega))
  replace h_pg := h_pg.kept hF 1 rfl (fsd (by omega))
  replace h_sb := h_sb.kept hF 1 rfl (fsd (by omega))
  replace h_sa := h_sa.kept hF 1 rfl (fsd (by omega))
  replace h_pr := h_pr.kept hF 10 rfl (fsd (by omega))
  replace h_ln := h_ln.kept hF 1 rfl (fsd (by omega))
  replace h_la := h_la.kept hF 1 rfl (fsd (by omega))
  replace h_out := h_out.kept hF 1 rfl (fsd (by omega))
  replace h_outD := h_outD.kept hF 1 rfl (fsd (by omega))
  show V p l e room_1 s m args below meth cd Q 9 H2 lo2 (kq + 1) (nq + 6) 2803 [(6, .int (zI 2)), (5, .int (zI i)), (4, .ref (x + 340)), (3, .ref (x + 339)), (2, .ref (x + 334)), (1, .ref x), (0, .ref b)] [.int (zI 0)]
  refine v_istore X dL_law_2803 2805 rfl (by decide) (L' := [(7, .int (zI 0)), (6, .int (zI 2)), (5, .int (zI i)), (4, .ref (x + 340)), (3, .ref (x + 339)), (2, .ref (x + 334)), (1, .ref x), (0, .ref b)]) rfl ?_
  refine v_aload_n X dL_law_2805 2806 rfl 5 rfl ?_
  refine v_rdV X hM.C h_mo.1 (c_X10_thrown l E (x + 334) (updC mo 0 (updZ (mo 0) 0 2))) kvX10_thrown kiX10_thrown kl_L_196 rfl rfl (As := []) rfl rfl (rm_law0 rfl (by omega) (by omega)) dL_law_2806 2809 rfl ?_
  show V p l e room_1 s m args below meth cd Q 9 H2 lo2 (kq + 1) (nq + 6) 2809 [(7, .int (zI 0)), (6, .int (zI 2)), (5, .int (zI i)), (4, .ref (x + 340)), (3, .ref (x + 339)), (2, .ref (x + 334)), (1, .ref x), (0, .ref b)] [.int (zI 2)]
  refine v_iload X dL_law_2809 2811 rfl 1 rfl ?_
  refine v_icmp_eq X (by omega) (by omega) dL_law_2811 2814 2816 rfl (by decide) (fun c_3 => ?_) (fun c_3 => ?_)
  · skip
    refine v_iload X dL_law_2816 2818 rfl 1 rfl ?_
    refine v_if_ne X (by omega) dL_law_2818 2821 2833 rfl (by decide) (fun c_4 => ?_) (fun c_4 => ?_)
    · skip
      refine v_goto X dL_law_2833 3555 (by decide) ?_
      refine v_widen (k' := kq + 60) (n' := nq + 4000) (by omega) (by omega) ?_
      exact V_pick [2, 3, 4, 5, 6, 7] rfl (kk _ _ hM ⟨hzl, _, _, _, _, _, _, _, _, _, _, _, _, _, _, _, _, _, _, _, _, _, _, _, _, _, _, _, _, ⟨h_cm, h_co, h_bf, h_sv, h_hi, h_hf, h_dk, h_se, h_pg, h_sb, h_sa, h_pr, h_ln, h_la, h_mo, h_out, h_outD⟩, hP0.mo_0⟩)
    · skip
      exfalso; omega
  · skip
    exfalso; omega
set_option maxHeartbeats 4000000 in
set_option maxRecDepth 20000 in
theorem lo_docketAt (hl : l.stackTraces = false) (X : CF p m cd code 9 s args RL) (hX : va_X b Lx xs s s.heap) (hbl : b < s.heap.size) (hLx : Lx ≤ 2560) (hM : MS E [] s H lo) (hk : kq + 60 ≤ 603072) (hn : nq + 4000 ≤ 7211113) (hx : s.heap.size ≤ x) (hzl : x + 341 ≤ H.size) {v : Nat} {N : Nat} {f : Int → Int} {nn : Int} {v2 : Nat} {N2 : Nat} {f2 : Int → Int} {n2 : Int} {co : Nat → Int → Int} {bf : Nat → Int → Int} {cv : Nat → Int → Int} {hc : Nat → Nat → Int → Int} {nx : Int} {sz : Int} {hs : Int} {er : Int} {fa : Int} {ss : Int} {dk : Nat → Int → Int} {se : Nat → Int → Int} {po : Int} {si : Int} {pr : Nat → Int → Int} {ml : Int} {ml2 : Int} {mo : Nat → Int → Int} {lg : Nat → Int64} {dg : Nat → UInt64} (hW : LawW E x v N f nn v2 N2 f2 n2 co bf cv hc nx sz hs er fa ss dk se po si pr ml ml2 mo lg dg H) (hP : LawP x v N f nn v2 N2 f2 n2 co cv hc nx sz hs er fa ss po si pr mo) (i0 : 0 ≤ i) (i1 : i + 5 ≤ (Lx : Int)) {a1 : Int} (ha1 : (xs (i + 1).toNat).toInt = a1) (ga1 : Rg a1) (q0 : 0 ≤ a1 ∧ a1 < (dkM co (co 0 0).toNat : Int)) (kk : ∀ (H1 : Heap) (lo1 : List Loc), MS E [] s H1 lo1 → LawI E x H1 → V p l e room_1 s m args below meth cd Q 9 H1 lo1 (kq + 60) (nq + 4000) 3555 [(5, .int (zI i)), (4, .ref (x + 340)), (3, .ref (x + 339)), (2, .ref (x + 334)), (1, .ref x), (0, .ref b)] []) : V p l e room_1 s m args below meth cd Q 9 H lo kq nq 2724 [(5, .int (zI i)), (4, .ref (x + 340)), (3, .ref (x + 339)), (2, .ref (x + 334)), (1, .ref x), (0, .ref b)] [] := by
  obtain ⟨h_cm, h_co, h_bf, h_sv, h_hi, h_hf, h_dk, h_se, h_pg, h_sb, h_sa, h_pr, h_ln, h_la, h_mo, h_out, h_outD⟩ := hW
  have hP0 := hP
  obtain ⟨⟨hD, hDv, hDh⟩, ⟨hRM, hch, hcs⟩, ⟨⟨n0, n1⟩, ⟨s0, s1⟩, hhs⟩, ⟨hm8, hnn, hAg, hNN, hnN, hf9⟩, ⟨T, hSB, hLT, hn38⟩, hPB, ⟨her, hfa, hss, ger, gfa, gss, gms⟩, ⟨gpo, gsi⟩, ⟨hv1, hv2, hvv⟩⟩ := hP
  have hO := hD.inv.ok
  have hI := hD.inv.ts
  have hSt := hD.inv.st
  have hS := hD.inv.sn
  have hR := hRM.1.2
  have hG := gp_inv hD
  have hb0 := hO.b0
  have hbw := hO.bw
  have hbf : ¬ Fr [] s.heap.size b := fun z => z.elim (fun q => q.elim) (fun q => by omega)
  have hdi := dp_in hO (dk 1) q0.1 q0.2
  have hdb := dkG_b co (dk 1) (co 0 0).toNat a1 q0.1 q0.2
  refine v_aload_n X dL_law_2724 2725 rfl 4 rfl ?_
  refine v_aload_n X dL_law_2725 2726 rfl 5 rfl ?_
  refine v_iload X dL_law_2726 2728 rfl 0 rfl ?_
  refine v_iconst X dL_law_2728 2729 rfl ?_
  refine v_iadd X dL_law_2729 2730 rfl ?_
  refine v_scr X hM hX hbl hbf (by omega) (by omega) hLx ha1 dL_law_2730 2731 rfl ?_
  refine v_aload_n X dL_law_2731 2732 rfl 2 rfl ?_
  refine v_mwS X hM (w_X9_docketAt l hl E x co hs er fa ss a1 dk (x + 339) lg hO ga1 q0 (by omega) (by omega) (by omega) (by omega) (by omega)) kwL_docketAt ksL_docketAt kl_L_331 (As := [.ref x, .int (zI a1), .ref (x + 339)]) rfl rfl (rm_lawW rfl (by omega) (by omega)) dL_law_2732 2735 rfl (k' := kq + 1) (n' := nq + 6) rfl rfl (by intro q hq; simp only [Fr, Fs, or_false, false_or] at hq ⊢; omega) ⟨h_cm, h_co, h_dk, h_out⟩ (fun rv H1 lo1 hM hF hpo => ?_)
  obtain ⟨rfl, hw_0, hw_1⟩ := hpo
  have h_dk : PR E (x + 311) (docketW E (x + 311) (updC (updC dk 0 (updZ (dk 0) 1 (dkM co (co 0 0).toNat : Int))) 1 (dkG co ((dk 1)) (co 0 0).toNat))) H1 := hw_0
  have h_out : PR E (x + 339) [(x + 339, .inl (E 102 4, 1, .inr (.inl (fun _ => zL (dkG co ((dk 1)) (co 0 0).toNat a1)))))] H1 := hw_1
  replace hzl := Nat.le_trans hzl hF.1
  replace h_cm := h_cm.kept hF 1 rfl (by intro q q1 q2 q3; simp only [Fs, or_false] at q3; omega)
  replace h_co := h_co.kept hF 28 rfl (by intro q q1 q2 q3; simp only [Fs, or_false] at q3; omega)
  replace h_bf := h_bf.kept hF 28 rfl (by intro q q1 q2 q3; simp only [Fs, or_false] at q3; omega)
  replace h_sv := h_sv.kept hF 28 rfl (by intro q q1 q2 q3; simp only [Fs, or_false] at q3; omega)
  replace h_hi := h_hi.kept hF 2 rfl (by intro q q1 q2 q3; simp only [Fs, or_false] at q3; omega)
  replace h_hf := h_hf.kept hF (by intro q q1 q2 q3; simp only [Fs, or_false] at q3; omega)
  replace h_se := h_se.kept hF 5 rfl (by intro q q1 q2 q3; simp only [Fs, or_false] at q3; omega)
  replace h_pg := h_pg.kept hF 1 rfl (by intro q q1 q2 q3; simp only [Fs, or_false] at q3; omega)
  replace h_sb := h_sb.kept hF 1 rfl (by intro q q1 q2 q3; simp only [Fs, or_false] at q3; omega)
  replace h_sa := h_sa.kept hF 1 rfl (by intro q q1 q2 q3; simp only [Fs, or_false] at q3; omega)
  replace h_pr := h_pr.kept hF 10 rfl (by intro q q1 q2 q3; simp only [Fs, or_false] at q3; omega)
  replace h_ln := h_ln.kept hF 1 rfl (by intro q q1 q2 q3; simp only [Fs, or_false] at q3; omega)
  replace h_la := h_la.kept hF 1 rfl (by intro q q1 q2 q3; simp only [Fs, or_false] at q3; omega)
  replace h_mo := h_mo.kept hF 5 rfl (by intro q q1 q2 q3; simp only [Fs, or_false] at q3; omega)
  replace h_outD := h_outD.kept hF 1 rfl (by intro q q1 q2 q3; simp only [Fs, or_false] at q3; omega)
  show V p l e room_1 s m args below meth cd Q 9 H1 lo1 (kq + 1) (nq + 6) 2735 [(5, .int (zI i)), (4, .ref (x + 340)), (3, .ref (x + 339)), (2, .ref (x + 334)), (1, .ref x), (0, .ref b)] [.int (zI 0)]
  refine v_istore X dL_law_2735 2737 rfl (by decide) (L' := [(6, .int (zI 0)), (5, .int (zI i)), (4, .ref (x + 340)), (3, .ref (x + 339)), (2, .ref (x + 334)), (1, .ref x), (0, .ref b)]) rfl ?_
  refine v_aload_n X dL_law_2737 2738 rfl 4 rfl ?_
  refine v_aload_n X dL_law_2738 2739 rfl 6 rfl ?_
  refine v_iload X dL_law_2739 2741 rfl 1 rfl ?_
  refine v_iconst X dL_law_2741 2742 rfl ?_
  refine v_iadd X dL_law_2742 2743 rfl ?_
  refine v_scr X hM hX hbl hbf (by omega) (by omega) hLx ha1 dL_law_2743 2744 rfl ?_
  refine v_muV X hM (h_mo.1) (c_X10_docketAt l E (x + 334) mo co a1 hO hR ga1 (by omega)) kvX10_docketAt kiX10_docketAt kl_L_333 (q0 := 0) rfl rfl (As := [.int (zI a1)]) rfl rfl (rm_law rfl (by omega) (by omega)) dL_law_2744 2747 rfl (k' := kq + 1) (n' := nq + 6) rfl rfl (fsI (fun q q1 q2 => (Or.inr (by omega)))) h_mo (fun rv H2 lo2 hM hF hpo => ?_)
  obtain ⟨rfl, hw_0⟩ := hpo
  have h_mo : PR E (x + 334) (modelW E (x + 334) (updC mo 0 (updZ (mo 0) 0 0))) H2 := hw_0
  replace hzl := Nat.le_trans hzl hF.1
  replace h_cm := h_cm.kept hF 1 rfl (fsd (by omega))
  replace h_co := h_co.kept hF 28 rfl (fsd (by omega))
  replace h_bf := h_bf.kept hF 28 rfl (fsd (by omega))
  replace h_sv := h_sv.kept hF 28 rfl (fsd (by omega))
  replace h_hi := h_hi.kept hF 2 rfl (fsd (by omega))
  replace h_hf := h_hf.kept hF (fsd (by omega))
  replace h_dk := h_dk.kept hF 3 rfl (fsd (by omega))
  replace h_se := h_se.kept hF 5 rfl (fsd (by omega))
  replace h_pg := h_pg.kept hF 1 rfl (fsd (by omega))
  replace h_sb := h_sb.kept hF 1 rfl (fsd (by omega))
  replace h_sa := h_sa.kept hF 1 rfl (fsd (by omega))
  replace h_pr := h_pr.kept hF 10 rfl (fsd (by omega))
  replace h_ln := h_ln.kept hF 1 rfl (fsd (by omega))
  replace h_la := h_la.kept hF 1 rfl (fsd (by omega))
  replace h_out := h_out.kept hF 1 rfl (fsd (by omega))
  replace h_outD := h_outD.kept hF 1 rfl (fsd (by omega))
  show V p l e room_1 s m args below meth cd Q 9 H2 lo2 (kq + 1) (nq + 6) 2747 [(6, .int (zI 0)), (5, .int (zI i)), (4, .ref (x + 340)), (3, .ref (x + 339)), (2, .ref (x + 334)), (1, .ref x), (0, .ref b)] [.int (zI (dpC co a1))]
  refine v_istore X dL_law_2747 2749 rfl (by decide) (L' := [(7, .int (zI (dpC co a1))), (6, .int (zI 0)), (5, .int (zI i)), (4, .ref (x + 340)), (3, .ref (x + 339)), (2, .ref (x + 334)), (1, .ref x), (0, .ref b)]) rfl ?_
  refine v_aload_n X dL_law_2749 2750 rfl 5 rfl ?_
  refine v_rdV X hM.C h_mo.1 (c_X10_thrown l E (x + 334) (updC mo 0 (updZ (mo 0) 0 0))) kvX10_thrown kiX10_thrown kl_L_196 rfl rfl (As := []) rfl rfl (rm_law0 rfl (by omega) (by omega)) dL_law_2750 2753 rfl ?_
  show V p l e room_1 s m args below meth cd Q 9 H2 lo2 (kq + 1) (nq + 6) 2753 [(7, .int (zI (dpC co a1))), (6, .int (zI 0)), (5, .int (zI i)), (4, .ref (x + 340)), (3, .ref (x + 339)), (2, .ref (x + 334)), (1, .ref x), (0, .ref b)] [.int (zI 0)]
  refine v_iload X dL_law_2753 2755 rfl 1 rfl ?_
  refine v_icmp_eq X (by omega) (by omega) dL_law_2755 2758 2760 rfl (by decide) (fun c_3 => ?_) (fun c_3 => ?_)
  · skip
    refine v_iload X dL_law_2760 2762 rfl 1 rfl ?_
    refine v_if_ne X (by omega) dL_law_2762 2765 2777 rfl (by decide) (fun c_4 => ?_) (fun c_4 => ?_)
    · skip
      exfalso; omega
    · skip
      refine v_aload_n X dL_law_2765 2766 rfl 4 rfl ?_
      refine v_iconst X dL_law_2766 2767 rfl ?_
      refine v_lald X hM.C h_out.1 0 rfl dL_law_2767 2768 rfl ?_
      show V p l e room_1 s m args below meth cd Q 9 H2 lo2 (kq + 1) (nq + 6) 2768 [(7, .int (zI (dpC co a1))), (6, .int (zI 0)), (5, .int (zI i)), (4, .ref (x + 340)), (3, .ref (x + 339)), (2, .ref (x + 334)), (1, .ref x), (0, .ref b)] [.long (zL (dkG co (dk 1) (co 0 0).toNat a1))]
      refine v_iload X dL_law_2768 2770 rfl 0 rfl ?_
      refine v_i2l X dL_law_2770 2771 rfl ?_
      refine V_S (st' := [.long (zL (dpC co a1)), .long (zL (dpC co a1))]) (by rw [show (dkG co (dk 1) (co 0 0).toNat a1 : Int) = dpC co a1 from hdi.symm]) ?_
      refine v_lcmp0 X dL_law_2771 2772 rfl ?_
      refine v_if_eq X (by omega) dL_law_2772 2775 2777 rfl (by decide) (fun c_5 => ?_) (fun c_5 => ?_)
      · skip
        refine v_goto X dL_law_2777 3555 (by decide) ?_
        refine v_widen (k' := kq + 60) (n' := nq + 4000) (by omega) (by omega) ?_
        exact V_pick [2, 3, 4, 5, 6, 7] rfl (kk _ _ hM ⟨hzl, _, _, _, _, _, _, _, _, _, _, _, _, _, _, _, _, _, _, _, _, _, _, _, _, _, _, _, _, ⟨h_cm, h_co, h_bf, h_sv, h_hi, h_hf, h_dk, h_se, h_pg, h_sb, h_sa, h_pr, h_ln, h_la, h_mo, h_out, h_outD⟩, hP0.mo_0⟩)
      · skip
        exfalso; omega
  · skip
    exfalso; omega
set_option maxHeartbeats 4000000 in
set_option maxRecDepth 20000 in
theorem lo_docketAt_1 (hl : l.stackTraces = false) (X : CF p m cd code 9 s args RL) (hX : va_X b Lx xs s s.heap) (hbl : b < s.heap.size) (hLx : Lx ≤ 2560) (hM : MS E [] s H lo) (hk : kq + 60 ≤ 603072) (hn : nq + 4000 ≤ 7211113) (hx : s.heap.size ≤ x) (hzl : x + 341 ≤ H.size) {v : Nat} {N : Nat} {f : Int → Int} {nn : Int} {v2 : Nat} {N2 : Nat} {f2 : Int → Int} {n2 : Int} {co : Nat → Int → Int} {bf : Nat → Int → Int} {cv : Nat → Int → Int} {hc : Nat → Nat → Int → Int} {nx : Int} {sz : Int} {hs : Int} {er : Int} {fa : Int} {ss : Int} {dk : Nat → Int → Int} {se : Nat → Int → Int} {po : Int} {si : Int} {pr : Nat → Int → Int} {ml : Int} {ml2 : Int} {mo : Nat → Int → Int} {lg : Nat → Int64} {dg : Nat → UInt64} (hW : LawW E x v N f nn v2 N2 f2 n2 co bf cv hc nx sz hs er fa ss dk se po si pr ml ml2 mo lg dg H) (hP : LawP x v N f nn v2 N2 f2 n2 co cv hc nx sz hs er fa ss po si pr mo) (i0 : 0 ≤ i) (i1 : i + 5 ≤ (Lx : Int)) {a1 : Int} (ha1 : (xs (i + 1).toNat).toInt = a1) (ga1 : Rg a1) (q0 : ¬ (0 ≤ a1 ∧ a1 < (dkM co (co 0 0).toNat : Int))) (kk : ∀ (H1 : Heap) (lo1 : List Loc), MS E [] s H1 lo1 → LawI E x H1 → V p l e room_1 s m args below meth cd Q 9 H1 lo1 (kq + 60) (nq + 4000) 3555 [(5, .int (zI i)), (4, .ref (x + 340)), (3, .ref (x + 339)), (2, .ref (x + 334)), (1, .ref x), (0, .ref b)] []) : V p l e room_1 s m args below meth cd Q 9 H lo kq nq 2724 [(5, .int (zI i)), (4, .ref (x + 340)), (3, .ref (x + 339)), (2, .ref (x + 334)), (1, .ref x), (0, .ref b)] [] := by
  obtain ⟨h_cm, h_co, h_bf, h_sv, h_hi, h_hf, h_dk, h_se, h_pg, h_sb, h_sa, h_pr, h_ln, h_la, h_mo, h_out, h_outD⟩ := hW
  have hP0 := hP
  obtain ⟨⟨hD, hDv, hDh⟩, ⟨hRM, hch, hcs⟩, ⟨⟨n0, n1⟩, ⟨s0, s1⟩, hhs⟩, ⟨hm8, hnn, hAg, hNN, hnN, hf9⟩, ⟨T, hSB, hLT, hn38⟩, hPB, ⟨her, hfa, hss, ger, gfa, gss, gms⟩, ⟨gpo, gsi⟩, ⟨hv1, hv2, hvv⟩⟩ := hP
  have hO := hD.inv.ok
  have hI := hD.inv.ts
  have hSt := hD.inv.st
  have hS := hD.inv.sn
  have hR := hRM.1.2
  have hG := gp_inv hD
  have hb0 := hO.b0
  have hbw := hO.bw
  have hbf : ¬ Fr [] s.heap.size b := fun z => z.elim (fun q => q.elim) (fun q => by omega)
  have hdo := dp_out hO q0
  refine v_aload_n X dL_law_2724 2725 rfl 4 rfl ?_
  refine v_aload_n X dL_law_2725 2726 rfl 5 rfl ?_
  refine v_iload X dL_law_2726 2728 rfl 0 rfl ?_
  refine v_iconst X dL_law_2728 2729 rfl ?_
  refine v_iadd X dL_law_2729 2730 rfl ?_
  refine v_scr X hM hX hbl hbf (by omega) (by omega) hLx ha1 dL_law_2730 2731 rfl ?_
  refine v_aload_n X dL_law_2731 2732 rfl 2 rfl ?_
  refine v_mwS X hM (w_X9_docketAt_0_t l hl E x co hs er fa ss a1 dk (x + 339) lg hO ga1 q0 (by omega) (by omega) (by omega)) kwL_docketAt ksL_docketAt kl_L_331 (As := [.ref x, .int (zI a1), .ref (x + 339)]) rfl rfl (rm_lawW rfl (by omega) (by omega)) dL_law_2732 2735 rfl (k' := kq + 1) (n' := nq + 6) rfl rfl (fsI (fun q q1 q2 => (Or.inr (by omega)))) ⟨h_cm, h_co, h_dk, h_out⟩ (fun rv H1 lo1 hM hF hpo => ?_)
  obtain ⟨rfl, hw_0⟩ := hpo
  have h_dk : PR E (x + 311) (docketW E (x + 311) (updC (updC dk 0 (updZ (dk 0) 1 (dkM co (co 0 0).toNat : Int))) 1 (dkG co ((dk 1)) (co 0 0).toNat))) H1 := hw_0
  replace hzl := Nat.le_trans hzl hF.1
  replace h_cm := h_cm.kept hF 1 rfl (fsd (by omega))
  replace h_co := h_co.kept hF 28 rfl (fsd (by omega))
  replace h_bf := h_bf.kept hF 28 rfl (fsd (by omega))
  replace h_sv := h_sv.kept hF 28 rfl (fsd (by omega))
  replace h_hi := h_hi.kept hF 2 rfl (fsd (by omega))
  replace h_hf := h_hf.kept hF (fsd (by omega))
  replace h_se := h_se.kept hF 5 rfl (fsd (by omega))
  replace h_pg := h_pg.kept hF 1 rfl (fsd (by omega))
  replace h_sb := h_sb.kept hF 1 rfl (fsd (by omega))
  replace h_sa := h_sa.kept hF 1 rfl (fsd (by omega))
  replace h_pr := h_pr.kept hF 10 rfl (fsd (by omega))
  replace h_ln := h_ln.kept hF 1 rfl (fsd (by omega))
  replace h_la := h_la.kept hF 1 rfl (fsd (by omega))
  replace h_mo := h_mo.kept hF 5 rfl (fsd (by omega))
  replace h_out := h_out.kept hF 1 rfl (fsd (by omega))
  replace h_outD := h_outD.kept hF 1 rfl (fsd (by omega))
  show V p l e room_1 s m args below meth cd Q 9 H1 lo1 (kq + 1) (nq + 6) 2735 [(5, .int (zI i)), (4, .ref (x + 340)), (3, .ref (x + 339)), (2, .ref (x + 334)), (1, .ref x), (0, .ref b)] [.int (zI 1)]
  refine v_istore X dL_law_2735 2737 rfl (by decide) (L' := [(6, .int (zI 1)), (5, .int (zI i)), (4, .ref (x + 340)), (3, .ref (x + 339)), (2, .ref (x + 334)), (1, .ref x), (0, .ref b)]) rfl ?_
  refine v_aload_n X dL_law_2737 2738 rfl 4 rfl ?_
  refine v_aload_n X dL_law_2738 2739 rfl 6 rfl ?_
  refine v_iload X dL_law_2739 2741 rfl 1 rfl ?_
  refine v_iconst X dL_law_2741 2742 rfl ?_
  refine v_iadd X dL_law_2742 2743 rfl ?_
  refine v_scr X hM hX hbl hbf (by omega) (by omega) hLx ha1 dL_law_2743 2744 rfl ?_
  refine v_muV X hM (h_mo.1) (c_X10_docketAt_0 l E (x + 334) mo co a1 hO hR ga1 (by omega)) kvX10_docketAt kiX10_docketAt kl_L_333 (q0 := 0) rfl rfl (As := [.int (zI a1)]) rfl rfl (rm_law rfl (by omega) (by omega)) dL_law_2744 2747 rfl (k' := kq + 1) (n' := nq + 6) rfl rfl (fsI (fun q q1 q2 => (Or.inr (by omega)))) h_mo (fun rv H2 lo2 hM hF hpo => ?_)
  obtain ⟨rfl, hw_0⟩ := hpo
  have h_mo : PR E (x + 334) (modelW E (x + 334) (updC mo 0 (updZ (mo 0) 0 1))) H2 := hw_0
  replace hzl := Nat.le_trans hzl hF.1
  replace h_cm := h_cm.kept hF 1 rfl (fsd (by omega))
  replace h_co := h_co.kept hF 28 rfl (fsd (by omega))
  replace h_bf := h_bf.kept hF 28 rfl (fsd (by omega))
  replace h_sv := h_sv.kept hF 28 rfl (fsd (by omega))
  replace h_hi := h_hi.kept hF 2 rfl (fsd (by omega))
  replace h_hf := h_hf.kept hF (fsd (by omega))
  replace h_dk := h_dk.kept hF 3 rfl (fsd (by omega))
  replace h_se := h_se.kept hF 5 rfl (fsd (by omega))
  replace h_pg := h_pg.kept hF 1 rfl (fsd (by omega))
  replace h_sb := h_sb.kept hF 1 rfl (fsd (by omega))
  replace h_sa := h_sa.kept hF 1 rfl (fsd (by omega))
  replace h_pr := h_pr.kept hF 10 rfl (fsd (by omega))
  replace h_ln := h_ln.kept hF 1 rfl (fsd (by omega))
  replace h_la := h_la.kept hF 1 rfl (fsd (by omega))
  replace h_out := h_out.kept hF 1 rfl (fsd (by omega))
  replace h_outD := h_outD.kept hF 1 rfl (fsd (by omega))
  show V p l e room_1 s m args below meth cd Q 9 H2 lo2 (kq + 1) (nq + 6) 2747 [(6, .int (zI 1)), (5, .int (zI i)), (4, .ref (x + 340)), (3, .ref (x + 339)), (2, .ref (x + 334)), (1, .ref x), (0, .ref b)] [.int (zI 0)]
  refine v_istore X dL_law_2747 2749 rfl (by decide) (L' := [(7, .int (zI 0)), (6, .int (zI 1)), (5, .int (zI i)), (4, .ref (x + 340)), (3, .ref (x + 339)), (2, .ref (x + 334)), (1, .ref x), (0, .ref b)]) rfl ?_
  refine v_aload_n X dL_law_2749 2750 rfl 5 rfl ?_
  refine v_rdV X hM.C h_mo.1 (c_X10_thrown l E (x + 334) (updC mo 0 (updZ (mo 0) 0 1))) kvX10_thrown kiX10_thrown kl_L_196 rfl rfl (As := []) rfl rfl (rm_law0 rfl (by omega) (by omega)) dL_law_2750 2753 rfl ?_
  show V p l e room_1 s m args below meth cd Q 9 H2 lo2 (kq + 1) (nq + 6) 2753 [(7, .int (zI 0)), (6, .int (zI 1)), (5, .int (zI i)), (4, .ref (x + 340)), (3, .ref (x + 339)), (2, .ref (x + 334)), (1, .ref x), (0, .ref b)] [.int (zI 1)]
  refine v_iload X dL_law_2753 2755 rfl 1 rfl ?_
  refine v_icmp_eq X (by omega) (by omega) dL_law_2755 2758 2760 rfl (by decide) (fun c_3 => ?_) (fun c_3 => ?_)
  · skip
    refine v_iload X dL_law_2760 2762 rfl 1 rfl ?_
    refine v_if_ne X (by omega) dL_law_2762 2765 2777 rfl (by decide) (fun c_4 => ?_) (fun c_4 => ?_)
    · skip
      refine v_goto X dL_law_2777 3555 (by decide) ?_
      refine v_widen (k' := kq + 60) (n' := nq + 4000) (by omega) (by omega) ?_
      exact V_pick [2, 3, 4, 5, 6, 7] rfl (kk _ _ hM ⟨hzl, _, _, _, _, _, _, _, _, _, _, _, _, _, _, _, _, _, _, _, _, _, _, _, _, _, _, _, _, ⟨h_cm, h_co, h_bf, h_sv, h_hi, h_hf, h_dk, h_se, h_pg, h_sb, h_sa, h_pr, h_ln, h_la, h_mo, h_out, h_outD⟩, hP0.mo_0⟩)
    · skip
      exfalso; omega
  · skip
    exfalso; omega
set_option maxHeartbeats 4000000 in
set_option maxRecDepth 20000 in
theorem lo_nextToDecide (hl : l.stackTraces = false) (X : CF p m cd code 9 s args RL) (hX : va_X b Lx xs s s.heap) (hbl : b < s.heap.size) (hLx : Lx ≤ 2560) (hM : MS E [] s H lo) (hk : kq + 60 ≤ 603072) (hn : nq + 4000 ≤ 7211113) (hx : s.heap.size ≤ x) (hzl : x + 341 ≤ H.size) {v : Nat} {N : Nat} {f : Int → Int} {nn : Int} {v2 : Nat} {N2 : Nat} {f2 : Int → Int} {n2 : Int} {co : Nat → Int → Int} {bf : Nat → Int → Int} {cv : Nat → Int → Int} {hc : Nat → Nat → Int → Int} {nx : Int} {sz : Int} {hs : Int} {er : Int} {fa : Int} {ss : Int} {dk : Nat → Int → Int} {se : Nat → Int → Int} {po : Int} {si : Int} {pr : Nat → Int → Int} {ml : Int} {ml2 : Int} {mo : Nat → Int → Int} {lg : Nat → Int64} {dg : Nat → UInt64} (hW : LawW E x v N f nn v2 N2 f2 n2 co bf cv hc nx sz hs er fa ss dk se po si pr ml ml2 mo lg dg H) (hP : LawP x v N f nn v2 N2 f2 n2 co cv hc nx sz hs er fa ss po si pr mo) (i0 : 0 ≤ i) (i1 : i + 5 ≤ (Lx : Int)) (q0 : 0 ≤ fhC co (dkG co (dk 1) (co 0 0).toNat) (dkM co (co 0 0).toNat)) (kk : ∀ (H1 : Heap) (lo1 : List Loc), MS E [] s H1 lo1 → LawI E x H1 → V p l e room_1 s m args below meth cd Q 9 H1 lo1 (kq + 60) (nq + 4000) 3555 [(5, .int (zI i)), (4, .ref (x + 340)), (3, .ref (x + 339)), (2, .ref (x + 334)), (1, .ref x), (0, .ref b)] []) : V p l e room_1 s m args below meth cd Q 9 H lo kq nq 2250 [(5, .int (zI i)), (4, .ref (x + 340)), (3, .ref (x + 339)), (2, .ref (x + 334)), (1, .ref x), (0, .ref b)] [] := by
  obtain ⟨h_cm, h_co, h_bf, h_sv, h_hi, h_hf, h_dk, h_se, h_pg, h_sb, h_sa, h_pr, h_ln, h_la, h_mo, h_out, h_outD⟩ := hW
  have hP0 := hP
  obtain ⟨⟨hD, hDv, hDh⟩, ⟨hRM, hch, hcs⟩, ⟨⟨n0, n1⟩, ⟨s0, s1⟩, hhs⟩, ⟨hm8, hnn, hAg, hNN, hnN, hf9⟩, ⟨T, hSB, hLT, hn38⟩, hPB, ⟨her, hfa, hss, ger, gfa, gss, gms⟩, ⟨gpo, gsi⟩, ⟨hv1, hv2, hvv⟩⟩ := hP
  have hO := hD.inv.ok
  have hI := hD.inv.ts
  have hSt := hD.inv.st
  have hS := hD.inv.sn
  have hR := hRM.1.2
  have hG := gp_inv hD
  have hb0 := hO.b0
  have hbw := hO.bw
  have hbf : ¬ Fr [] s.heap.size b := fun z => z.elim (fun q => q.elim) (fun q => by omega)
  have hfn := fh_nd hO (dk 1)
  refine v_aload_n X dL_law_2250 2251 rfl 4 rfl ?_
  refine v_aload_n X dL_law_2251 2252 rfl 2 rfl ?_
  refine v_mwS X hM (w_X9_nextToDecide l hl E x co hs er fa ss dk (x + 339) lg hO q0 (by omega) (by omega) (by omega) (by omega) (by omega)) kwL_nextToDecide ksL_nextToDecide kl_L_298 (As := [.ref x, .ref (x + 339)]) rfl rfl (rm_lawW rfl (by omega) (by omega)) dL_law_2252 2255 rfl (k' := kq + 1) (n' := nq + 6) rfl rfl (by intro q hq; simp only [Fr, Fs, or_false, false_or] at hq ⊢; omega) ⟨h_cm, h_co, h_dk, h_out⟩ (fun rv H1 lo1 hM hF hpo => ?_)
  obtain ⟨rfl, hw_0, hw_1⟩ := hpo
  have h_dk : PR E (x + 311) (docketW E (x + 311) (updC (updC dk 0 (updZ (dk 0) 1 (dkM co (co 0 0).toNat : Int))) 1 (dkG co ((dk 1)) (co 0 0).toNat))) H1 := hw_0
  have h_out : PR E (x + 339) [(x + 339, .inl (E 102 4, 1, .inr (.inl (fun _ => zL (fhC co (dkG co ((dk 1)) (co 0 0).toNat) (dkM co (co 0 0).toNat))))))] H1 := hw_1
  replace hzl := Nat.le_trans hzl hF.1
  replace h_cm := h_cm.kept hF 1 rfl (by intro q q1 q2 q3; simp only [Fs, or_false] at q3; omega)
  replace h_co := h_co.kept hF 28 rfl (by intro q q1 q2 q3; simp only [Fs, or_false] at q3; omega)
  replace h_bf := h_bf.kept hF 28 rfl (by intro q q1 q2 q3; simp only [Fs, or_false] at q3; omega)
  replace h_sv := h_sv.kept hF 28 rfl (by intro q q1 q2 q3; simp only [Fs, or_false] at q3; omega)
  replace h_hi := h_hi.kept hF 2 rfl (by intro q q1 q2 q3; simp only [Fs, or_false] at q3; omega)
  replace h_hf := h_hf.kept hF (by intro q q1 q2 q3; simp only [Fs, or_false] at q3; omega)
  replace h_se := h_se.kept hF 5 rfl (by intro q q1 q2 q3; simp only [Fs, or_false] at q3; omega)
  replace h_pg := h_pg.kept hF 1 rfl (by intro q q1 q2 q3; simp only [Fs, or_false] at q3; omega)
  replace h_sb := h_sb.kept hF 1 rfl (by intro q q1 q2 q3; simp only [Fs, or_false] at q3; omega)
  replace h_sa := h_sa.kept hF 1 rfl (by intro q q1 q2 q3; simp only [Fs, or_false] at q3; omega)
  replace h_pr := h_pr.kept hF 10 rfl (by intro q q1 q2 q3; simp only [Fs, or_false] at q3; omega)
  replace h_ln := h_ln.kept hF 1 rfl (by intro q q1 q2 q3; simp only [Fs, or_false] at q3; omega)
  replace h_la := h_la.kept hF 1 rfl (by intro q q1 q2 q3; simp only [Fs, or_false] at q3; omega)
  replace h_mo := h_mo.kept hF 5 rfl (by intro q q1 q2 q3; simp only [Fs, or_false] at q3; omega)
  replace h_outD := h_outD.kept hF 1 rfl (by intro q q1 q2 q3; simp only [Fs, or_false] at q3; omega)
  show V p l e room_1 s m args below meth cd Q 9 H1 lo1 (kq + 1) (nq + 6) 2255 [(5, .int (zI i)), (4, .ref (x + 340)), (3, .ref (x + 339)), (2, .ref (x + 334)), (1, .ref x), (0, .ref b)] [.int (zI 0)]
  refine v_istore X dL_law_2255 2257 rfl (by decide) (L' := [(6, .int (zI 0)), (5, .int (zI i)), (4, .ref (x + 340)), (3, .ref (x + 339)), (2, .ref (x + 334)), (1, .ref x), (0, .ref b)]) rfl ?_
  refine v_aload_n X dL_law_2257 2258 rfl 4 rfl ?_
  refine v_muV X hM (h_mo.1) (c_X10_nextToDecide l E (x + 334) mo co hO hR (by omega)) kvX10_nextToDecide kiX10_nextToDecide kl_L_301 (q0 := 0) rfl rfl (As := []) rfl rfl (rm_law rfl (by omega) (by omega)) dL_law_2258 2261 rfl (k' := kq + 1) (n' := nq + 6) rfl rfl (fsI (fun q q1 q2 => (Or.inr (by omega)))) h_mo (fun rv H2 lo2 hM hF hpo => ?_)
  obtain ⟨rfl, hw_0⟩ := hpo
  have h_mo : PR E (x + 334) (modelW E (x + 334) (updC mo 0 (updZ (mo 0) 0 0))) H2 := hw_0
  replace hzl := Nat.le_trans hzl hF.1
  replace h_cm := h_cm.kept hF 1 rfl (fsd (by omega))
  replace h_co := h_co.kept hF 28 rfl (fsd (by omega))
  replace h_bf := h_bf.kept hF 28 rfl (fsd (by omega))
  replace h_sv := h_sv.kept hF 28 rfl (fsd (by omega))
  replace h_hi := h_hi.kept hF 2 rfl (fsd (by omega))
  replace h_hf := h_hf.kept hF (fsd (by omega))
  replace h_dk := h_dk.kept hF 3 rfl (fsd (by omega))
  replace h_se := h_se.kept hF 5 rfl (fsd (by omega))
  replace h_pg := h_pg.kept hF 1 rfl (fsd (by omega))
  replace h_sb := h_sb.kept hF 1 rfl (fsd (by omega))
  replace h_sa := h_sa.kept hF 1 rfl (fsd (by omega))
  replace h_pr := h_pr.kept hF 10 rfl (fsd (by omega))
  replace h_ln := h_ln.kept hF 1 rfl (fsd (by omega))
  replace h_la := h_la.kept hF 1 rfl (fsd (by omega))
  replace h_out := h_out.kept hF 1 rfl (fsd (by omega))
  replace h_outD := h_outD.kept hF 1 rfl (fsd (by omega))
  show V p l e room_1 s m args below meth cd Q 9 H2 lo2 (kq + 1) (nq + 6) 2261 [(6, .int (zI 0)), (5, .int (zI i)), (4, .ref (x + 340)), (3, .ref (x + 339)), (2, .ref (x + 334)), (1, .ref x), (0, .ref b)] [.int (zI (ndF co (co 0 0).toNat))]
  refine v_istore X dL_law_2261 2263 rfl (by decide) (L' := [(7, .int (zI (ndF co (co 0 0).toNat))), (6, .int (zI 0)), (5, .int (zI i)), (4, .ref (x + 340)), (3, .ref (x + 339)), (2, .ref (x + 334)), (1, .ref x), (0, .ref b)]) rfl ?_
  refine v_aload_n X dL_law_2263 2264 rfl 5 rfl ?_
  refine v_rdV X hM.C h_mo.1 (c_X10_thrown l E (x + 334) (updC mo 0 (updZ (mo 0) 0 0))) kvX10_thrown kiX10_thrown kl_L_196 rfl rfl (As := []) rfl rfl (rm_law0 rfl (by omega) (by omega)) dL_law_2264 2267 rfl ?_
  show V p l e room_1 s m args below meth cd Q 9 H2 lo2 (kq + 1) (nq + 6) 2267 [(7, .int (zI (ndF co (co 0 0).toNat))), (6, .int (zI 0)), (5, .int (zI i)), (4, .ref (x + 340)), (3, .ref (x + 339)), (2, .ref (x + 334)), (1, .ref x), (0, .ref b)] [.int (zI 0)]
  refine v_iload X dL_law_2267 2269 rfl 1 rfl ?_
  refine v_icmp_eq X (by omega) (by omega) dL_law_2269 2272 2274 rfl (by decide) (fun c_3 => ?_) (fun c_3 => ?_)
  · skip
    refine v_iload X dL_law_2274 2276 rfl 1 rfl ?_
    refine v_if_ne X (by omega) dL_law_2276 2279 2291 rfl (by decide) (fun c_4 => ?_) (fun c_4 => ?_)
    · skip
      exfalso; omega
    · skip
      refine v_aload_n X dL_law_2279 2280 rfl 4 rfl ?_
      refine v_iconst X dL_law_2280 2281 rfl ?_
      refine v_lald X hM.C h_out.1 0 rfl dL_law_2281 2282 rfl ?_
      show V p l e room_1 s m args below meth cd Q 9 H2 lo2 (kq + 1) (nq + 6) 2282 [(7, .int (zI (ndF co (co 0 0).toNat))), (6, .int (zI 0)), (5, .int (zI i)), (4, .ref (x + 340)), (3, .ref (x + 339)), (2, .ref (x + 334)), (1, .ref x), (0, .ref b)] [.long (zL (fhC co (dkG co (dk 1) (co 0 0).toNat) (dkM co (co 0 0).toNat)))]
      refine v_iload X dL_law_2282 2284 rfl 0 rfl ?_
      refine v_i2l X dL_law_2284 2285 rfl ?_
      refine V_S (st' := [.long (zL (ndF co (co 0 0).toNat)), .long (zL (ndF co (co 0 0).toNat))]) (by rw [show (fhC co (dkG co (dk 1) (co 0 0).toNat) (dkM co (co 0 0).toNat) : Int) = ndF co (co 0 0).toNat from hfn]) ?_
      refine v_lcmp0 X dL_law_2285 2286 rfl ?_
      refine v_if_eq X (by omega) dL_law_2286 2289 2291 rfl (by decide) (fun c_5 => ?_) (fun c_5 => ?_)
      · skip
        refine v_goto X dL_law_2291 3555 (by decide) ?_
        refine v_widen (k' := kq + 60) (n' := nq + 4000) (by omega) (by omega) ?_
        exact V_pick [2, 3, 4, 5, 6, 7] rfl (kk _ _ hM ⟨hzl, _, _, _, _, _, _, _, _, _, _, _, _, _, _, _, _, _, _, _, _, _, _, _, _, _, _, _, _, ⟨h_cm, h_co, h_bf, h_sv, h_hi, h_hf, h_dk, h_se, h_pg, h_sb, h_sa, h_pr, h_ln, h_la, h_mo, h_out, h_outD⟩, hP0.mo_0⟩)
      · skip
        exfalso; omega
  · skip
    exfalso; omega
set_option maxHeartbeats 4000000 in
set_option maxRecDepth 20000 in
theorem lo_nextToDecide_1 (hl : l.stackTraces = false) (X : CF p m cd code 9 s args RL) (hX : va_X b Lx xs s s.heap) (hbl : b < s.heap.size) (hLx : Lx ≤ 2560) (hM : MS E [] s H lo) (hk : kq + 60 ≤ 603072) (hn : nq + 4000 ≤ 7211113) (hx : s.heap.size ≤ x) (hzl : x + 341 ≤ H.size) {v : Nat} {N : Nat} {f : Int → Int} {nn : Int} {v2 : Nat} {N2 : Nat} {f2 : Int → Int} {n2 : Int} {co : Nat → Int → Int} {bf : Nat → Int → Int} {cv : Nat → Int → Int} {hc : Nat → Nat → Int → Int} {nx : Int} {sz : Int} {hs : Int} {er : Int} {fa : Int} {ss : Int} {dk : Nat → Int → Int} {se : Nat → Int → Int} {po : Int} {si : Int} {pr : Nat → Int → Int} {ml : Int} {ml2 : Int} {mo : Nat → Int → Int} {lg : Nat → Int64} {dg : Nat → UInt64} (hW : LawW E x v N f nn v2 N2 f2 n2 co bf cv hc nx sz hs er fa ss dk se po si pr ml ml2 mo lg dg H) (hP : LawP x v N f nn v2 N2 f2 n2 co cv hc nx sz hs er fa ss po si pr mo) (i0 : 0 ≤ i) (i1 : i + 5 ≤ (Lx : Int)) (q0 : ¬ (0 ≤ fhC co (dkG co (dk 1) (co 0 0).toNat) (dkM co (co 0 0).toNat))) (kk : ∀ (H1 : Heap) (lo1 : List Loc), MS E [] s H1 lo1 → LawI E x H1 → V p l e room_1 s m args below meth cd Q 9 H1 lo1 (kq + 60) (nq + 4000) 3555 [(5, .int (zI i)), (4, .ref (x + 340)), (3, .ref (x + 339)), (2, .ref (x + 334)), (1, .ref x), (0, .ref b)] []) : V p l e room_1 s m args below meth cd Q 9 H lo kq nq 2250 [(5, .int (zI i)), (4, .ref (x + 340)), (3, .ref (x + 339)), (2, .ref (x + 334)), (1, .ref x), (0, .ref b)] [] := by
  obtain ⟨h_cm, h_co, h_bf, h_sv, h_hi, h_hf, h_dk, h_se, h_pg, h_sb, h_sa, h_pr, h_ln, h_la, h_mo, h_out, h_outD⟩ := hW
  have hP0 := hP
  obtain ⟨⟨hD, hDv, hDh⟩, ⟨hRM, hch, hcs⟩, ⟨⟨n0, n1⟩, ⟨s0, s1⟩, hhs⟩, ⟨hm8, hnn, hAg, hNN, hnN, hf9⟩, ⟨T, hSB, hLT, hn38⟩, hPB, ⟨her, hfa, hss, ger, gfa, gss, gms⟩, ⟨gpo, gsi⟩, ⟨hv1, hv2, hvv⟩⟩ := hP
  have hO := hD.inv.ok
  have hI := hD.inv.ts
  have hSt := hD.inv.st
  have hS := hD.inv.sn
  have hR := hRM.1.2
  have hG := gp_inv hD
  have hb0 := hO.b0
  have hbw := hO.bw
  have hbf : ¬ Fr [] s.heap.size b := fun z => z.elim (fun q => q.elim) (fun q => by omega)
  have hfn := fh_nd hO (dk 1)
  refine v_aload_n X dL_law_2250 2251 rfl 4 rfl ?_
  refine v_aload_n X dL_law_2251 2252 rfl 2 rfl ?_
  refine v_mwS X hM (w_X9_nextToDecide_0_t l hl E x co hs er fa ss dk (x + 339) lg hO q0 (by omega) (by omega) (by omega)) kwL_nextToDecide ksL_nextToDecide kl_L_298 (As := [.ref x, .ref (x + 339)]) rfl rfl (rm_lawW rfl (by omega) (by omega)) dL_law_2252 2255 rfl (k' := kq + 1) (n' := nq + 6) rfl rfl (fsI (fun q q1 q2 => (Or.inr (by omega)))) ⟨h_cm, h_co, h_dk, h_out⟩ (fun rv H1 lo1 hM hF hpo => ?_)
  obtain ⟨rfl, hw_0⟩ := hpo
  have h_dk : PR E (x + 311) (docketW E (x + 311) (updC (updC dk 0 (updZ (dk 0) 1 (dkM co (co 0 0).toNat : Int))) 1 (dkG co ((dk 1)) (co 0 0).toNat))) H1 := hw_0
  replace hzl := Nat.le_trans hzl hF.1
  replace h_cm := h_cm.kept hF 1 rfl (fsd (by omega))
  replace h_co := h_co.kept hF 28 rfl (fsd (by omega))
  replace h_bf := h_bf.kept hF 28 rfl (fsd (by omega))
  replace h_sv := h_sv.kept hF 28 rfl (fsd (by omega))
  replace h_hi := h_hi.kept hF 2 rfl (fsd (by omega))
  replace h_hf := h_hf.kept hF (fsd (by omega))
  replace h_se := h_se.kept hF 5 rfl (fsd (by omega))
  replace h_pg := h_pg.kept hF 1 rfl (fsd (by omega))
  replace h_sb := h_sb.kept hF 1 rfl (fsd (by omega))
  replace h_sa := h_sa.kept hF 1 rfl (fsd (by omega))
  replace h_pr := h_pr.kept hF 10 rfl (fsd (by omega))
  replace h_ln := h_ln.kept hF 1 rfl (fsd (by omega))
  replace h_la := h_la.kept hF 1 rfl (fsd (by omega))
  replace h_mo := h_mo.kept hF 5 rfl (fsd (by omega))
  replace h_out := h_out.kept hF 1 rfl (fsd (by omega))
  replace h_outD := h_outD.kept hF 1 rfl (fsd (by omega))
  show V p l e room_1 s m args below meth cd Q 9 H1 lo1 (kq + 1) (nq + 6) 2255 [(5, .int (zI i)), (4, .ref (x + 340)), (3, .ref (x + 339)), (2, .ref (x + 334)), (1, .ref x), (0, .ref b)] [.int (zI 1)]
  refine v_istore X dL_law_2255 2257 rfl (by decide) (L' := [(6, .int (zI 1)), (5, .int (zI i)), (4, .ref (x + 340)), (3, .ref (x + 339)), (2, .ref (x + 334)), (1, .ref x), (0, .ref b)]) rfl ?_
  refine v_aload_n X dL_law_2257 2258 rfl 4 rfl ?_
  refine v_muV X hM (h_mo.1) (c_X10_nextToDecide_0 l E (x + 334) mo co hO hR (by omega)) kvX10_nextToDecide kiX10_nextToDecide kl_L_301 (q0 := 0) rfl rfl (As := []) rfl rfl (rm_law rfl (by omega) (by omega)) dL_law_2258 2261 rfl (k' := kq + 1) (n' := nq + 6) rfl rfl (fsI (fun q q1 q2 => (Or.inr (by omega)))) h_mo (fun rv H2 lo2 hM hF hpo => ?_)
  obtain ⟨rfl, hw_0⟩ := hpo
  have h_mo : PR E (x + 334) (modelW E (x + 334) (updC mo 0 (updZ (mo 0) 0 1))) H2 := hw_0
  replace hzl := Nat.le_trans hzl hF.1
  replace h_cm := h_cm.kept hF 1 rfl (fsd (by omega))
  replace h_co := h_co.kept hF 28 rfl (fsd (by omega))
  replace h_bf := h_bf.kept hF 28 rfl (fsd (by omega))
  replace h_sv := h_sv.kept hF 28 rfl (fsd (by omega))
  replace h_hi := h_hi.kept hF 2 rfl (fsd (by omega))
  replace h_hf := h_hf.kept hF (fsd (by omega))
  replace h_dk := h_dk.kept hF 3 rfl (fsd (by omega))
  replace h_se := h_se.kept hF 5 rfl (fsd (by omega))
  replace h_pg := h_pg.kept hF 1 rfl (fsd (by omega))
  replace h_sb := h_sb.kept hF 1 rfl (fsd (by omega))
  replace h_sa := h_sa.kept hF 1 rfl (fsd (by omega))
  replace h_pr := h_pr.kept hF 10 rfl (fsd (by omega))
  replace h_ln := h_ln.kept hF 1 rfl (fsd (by omega))
  replace h_la := h_la.kept hF 1 rfl (fsd (by omega))
  replace h_out := h_out.kept hF 1 rfl (fsd (by omega))
  replace h_outD := h_outD.kept hF 1 rfl (fsd (by omega))
  show V p l e room_1 s m args below meth cd Q 9 H2 lo2 (kq + 1) (nq + 6) 2261 [(6, .int (zI 1)), (5, .int (zI i)), (4, .ref (x + 340)), (3, .ref (x + 339)), (2, .ref (x + 334)), (1, .ref x), (0, .ref b)] [.int (zI 0)]
  refine v_istore X dL_law_2261 2263 rfl (by decide) (L' := [(7, .int (zI 0)), (6, .int (zI 1)), (5, .int (zI i)), (4, .ref (x + 340)), (3, .ref (x + 339)), (2, .ref (x + 334)), (1, .ref x), (0, .ref b)]) rfl ?_
  refine v_aload_n X dL_law_2263 2264 rfl 5 rfl ?_
  refine v_rdV X hM.C h_mo.1 (c_X10_thrown l E (x + 334) (updC mo 0 (updZ (mo 0) 0 1))) kvX10_thrown kiX10_thrown kl_L_196 rfl rfl (As := []) rfl rfl (rm_law0 rfl (by omega) (by omega)) dL_law_2264 2267 rfl ?_
  show V p l e room_1 s m args below meth cd Q 9 H2 lo2 (kq + 1) (nq + 6) 2267 [(7, .int (zI 0)), (6, .int (zI 1)), (5, .int (zI i)), (4, .ref (x + 340)), (3, .ref (x + 339)), (2, .ref (x + 334)), (1, .ref x), (0, .ref b)] [.int (zI 1)]
  refine v_iload X dL_law_2267 2269 rfl 1 rfl ?_
  refine v_icmp_eq X (by omega) (by omega) dL_law_2269 2272 2274 rfl (by decide) (fun c_3 => ?_) (fun c_3 => ?_)
  · skip
    refine v_iload X dL_law_2274 2276 rfl 1 rfl ?_
    refine v_if_ne X (by omega) dL_law_2276 2279 2291 rfl (by decide) (fun c_4 => ?_) (fun c_4 => ?_)
    · skip
      refine v_goto X dL_law_2291 3555 (by decide) ?_
      refine v_widen (k' := kq + 60) (n' := nq + 4000) (by omega) (by omega) ?_
      exact V_pick [2, 3, 4, 5, 6, 7] rfl (kk _ _ hM ⟨hzl, _, _, _, _, _, _, _, _, _, _, _, _, _, _, _, _, _, _, _, _, _, _, _, _, _, _, _, _, ⟨h_cm, h_co, h_bf, h_sv, h_hi, h_hf, h_dk, h_se, h_pg, h_sb, h_sa, h_pr, h_ln, h_la, h_mo, h_out, h_outD⟩, hP0.mo_0⟩)
    · skip
      exfalso; omega
  · skip
    exfalso; omega
set_option maxHeartbeats 4000000 in
set_option maxRecDepth 20000 in
theorem lo_areConnectedBySearch (hl : l.stackTraces = false) (X : CF p m cd code 9 s args RL) (hX : va_X b Lx xs s s.heap) (hbl : b < s.heap.size) (hLx : Lx ≤ 2560) (hM : MS E [] s H lo) (hk : kq + 60 ≤ 603072) (hn : nq + 4000 ≤ 7211113) (hx : s.heap.size ≤ x) (hzl : x + 341 ≤ H.size) {v : Nat} {N : Nat} {f : Int → Int} {nn : Int} {v2 : Nat} {N2 : Nat} {f2 : Int → Int} {n2 : Int} {co : Nat → Int → Int} {bf : Nat → Int → Int} {cv : Nat → Int → Int} {hc : Nat → Nat → Int → Int} {nx : Int} {sz : Int} {hs : Int} {er : Int} {fa : Int} {ss : Int} {dk : Nat → Int → Int} {se : Nat → Int → Int} {po : Int} {si : Int} {pr : Nat → Int → Int} {ml : Int} {ml2 : Int} {mo : Nat → Int → Int} {lg : Nat → Int64} {dg : Nat → UInt64} (hW : LawW E x v N f nn v2 N2 f2 n2 co bf cv hc nx sz hs er fa ss dk se po si pr ml ml2 mo lg dg H) (hP : LawP x v N f nn v2 N2 f2 n2 co cv hc nx sz hs er fa ss po si pr mo) (i0 : 0 ≤ i) (i1 : i + 5 ≤ (Lx : Int)) {a1 : Int} (ha1 : (xs (i + 1).toNat).toInt = a1) (ga1 : Rg a1) {a2 : Int} (ha2 : (xs (i + 2).toNat).toInt = a2) (ga2 : Rg a2) (q0 : 0 ≤ a1 ∧ a1 < co 0 1) (q1 : 0 ≤ a2 ∧ a2 < co 0 1) (kk : ∀ (H1 : Heap) (lo1 : List Loc), MS E [] s H1 lo1 → LawI E x H1 → V p l e room_1 s m args below meth cd Q 9 H1 lo1 (kq + 60) (nq + 4000) 3555 [(5, .int (zI i)), (4, .ref (x + 340)), (3, .ref (x + 339)), (2, .ref (x + 334)), (1, .ref x), (0, .ref b)] []) : V p l e room_1 s m args below meth cd Q 9 H lo kq nq 2050 [(5, .int (zI i)), (4, .ref (x + 340)), (3, .ref (x + 339)), (2, .ref (x + 334)), (1, .ref x), (0, .ref b)] [] := by
  obtain ⟨h_cm, h_co, h_bf, h_sv, h_hi, h_hf, h_dk, h_se, h_pg, h_sb, h_sa, h_pr, h_ln, h_la, h_mo, h_out, h_outD⟩ := hW
  have hP0 := hP
  obtain ⟨⟨hD, hDv, hDh⟩, ⟨hRM, hch, hcs⟩, ⟨⟨n0, n1⟩, ⟨s0, s1⟩, hhs⟩, ⟨hm8, hnn, hAg, hNN, hnN, hf9⟩, ⟨T, hSB, hLT, hn38⟩, hPB, ⟨her, hfa, hss, ger, gfa, gss, gms⟩, ⟨gpo, gsi⟩, ⟨hv1, hv2, hvv⟩⟩ := hP
  have hO := hD.inv.ok
  have hI := hD.inv.ts
  have hSt := hD.inv.st
  have hS := hD.inv.sn
  have hR := hRM.1.2
  have hG := gp_inv hD
  have hb0 := hO.b0
  have hbw := hO.bw
  have hbf : ¬ Fr [] s.heap.size b := fun z => z.elim (fun q => q.elim) (fun q => by omega)
  refine v_aload_n X dL_law_2050 2051 rfl 4 rfl ?_
  refine v_aload_n X dL_law_2051 2052 rfl 5 rfl ?_
  refine v_iload X dL_law_2052 2054 rfl 0 rfl ?_
  refine v_iconst X dL_law_2054 2055 rfl ?_
  refine v_iadd X dL_law_2055 2056 rfl ?_
  refine v_scr X hM hX hbl hbf (by omega) (by omega) hLx ha1 dL_law_2056 2057 rfl ?_
  refine v_aload_n X dL_law_2057 2058 rfl 5 rfl ?_
  refine v_iload X dL_law_2058 2060 rfl 0 rfl ?_
  refine v_iconst X dL_law_2060 2061 rfl ?_
  refine v_iadd X dL_law_2061 2062 rfl ?_
  refine v_scr X hM hX hbl hbf (by omega) (by omega) hLx ha2 dL_law_2062 2063 rfl ?_
  refine v_aload_n X dL_law_2063 2064 rfl 2 rfl ?_
  refine v_mwS X hM (w_X9_areConnectedBySearch l hl E x co hs er fa ss a1 a2 se (x + 339) lg hO ga1 ga2 q0 q1 (ca_inv hD a1 q0.1 q0.2 a2 q1.1 q1.2) (by omega) (by omega) (by omega) (by omega) (by omega)) kwL_areConnectedBySearch ksL_areConnectedBySearch kl_L_285 (As := [.ref x, .int (zI a1), .int (zI a2), .ref (x + 339)]) rfl rfl (rm_lawW rfl (by omega) (by omega)) dL_law_2064 2067 rfl (k' := kq + 1) (n' := nq + 6) rfl rfl (by intro q hq; simp only [Fr, Fs, or_false, false_or] at hq ⊢; omega) ⟨h_cm, h_co, h_se, h_out⟩ (fun rv H1 lo1 hM hF hpo => ?_)
  obtain ⟨h_2, rfl, hw_0, hw_1⟩ := hpo
  have h_se : PR E (x + 314) (searchW E (x + 314) (stC co se a1 h_2)) H1 := hw_0
  have h_out : PR E (x + 339) [(x + 339, .inl (E 102 4, 1, .inr (.inl (fun _ => zL (bz (rtF ((co 13)) 8 a1 = rtF ((co 13)) 8 a2))))))] H1 := hw_1
  replace hzl := Nat.le_trans hzl hF.1
  replace h_cm := h_cm.kept hF 1 rfl (by intro q q1 q2 q3; simp only [Fs, or_false] at q3; omega)
  replace h_co := h_co.kept hF 28 rfl (by intro q q1 q2 q3; simp only [Fs, or_false] at q3; omega)
  replace h_bf := h_bf.kept hF 28 rfl (by intro q q1 q2 q3; simp only [Fs, or_false] at q3; omega)
  replace h_sv := h_sv.kept hF 28 rfl (by intro q q1 q2 q3; simp only [Fs, or_false] at q3; omega)
  replace h_hi := h_hi.kept hF 2 rfl (by intro q q1 q2 q3; simp only [Fs, or_false] at q3; omega)
  replace h_hf := h_hf.kept hF (by intro q q1 q2 q3; simp only [Fs, or_false] at q3; omega)
  replace h_dk := h_dk.kept hF 3 rfl (by intro q q1 q2 q3; simp only [Fs, or_false] at q3; omega)
  replace h_pg := h_pg.kept hF 1 rfl (by intro q q1 q2 q3; simp only [Fs, or_false] at q3; omega)
  replace h_sb := h_sb.kept hF 1 rfl (by intro q q1 q2 q3; simp only [Fs, or_false] at q3; omega)
  replace h_sa := h_sa.kept hF 1 rfl (by intro q q1 q2 q3; simp only [Fs, or_false] at q3; omega)
  replace h_pr := h_pr.kept hF 10 rfl (by intro q q1 q2 q3; simp only [Fs, or_false] at q3; omega)
  replace h_ln := h_ln.kept hF 1 rfl (by intro q q1 q2 q3; simp only [Fs, or_false] at q3; omega)
  replace h_la := h_la.kept hF 1 rfl (by intro q q1 q2 q3; simp only [Fs, or_false] at q3; omega)
  replace h_mo := h_mo.kept hF 5 rfl (by intro q q1 q2 q3; simp only [Fs, or_false] at q3; omega)
  replace h_outD := h_outD.kept hF 1 rfl (by intro q q1 q2 q3; simp only [Fs, or_false] at q3; omega)
  show V p l e room_1 s m args below meth cd Q 9 H1 lo1 (kq + 1) (nq + 6) 2067 [(5, .int (zI i)), (4, .ref (x + 340)), (3, .ref (x + 339)), (2, .ref (x + 334)), (1, .ref x), (0, .ref b)] [.int (zI 0)]
  refine v_istore X dL_law_2067 2069 rfl (by decide) (L' := [(6, .int (zI 0)), (5, .int (zI i)), (4, .ref (x + 340)), (3, .ref (x + 339)), (2, .ref (x + 334)), (1, .ref x), (0, .ref b)]) rfl ?_
  refine v_aload_n X dL_law_2069 2070 rfl 4 rfl ?_
  refine v_aload_n X dL_law_2070 2071 rfl 6 rfl ?_
  refine v_iload X dL_law_2071 2073 rfl 1 rfl ?_
  refine v_iconst X dL_law_2073 2074 rfl ?_
  refine v_iadd X dL_law_2074 2075 rfl ?_
  refine v_scr X hM hX hbl hbf (by omega) (by omega) hLx ha1 dL_law_2075 2076 rfl ?_
  refine v_aload_n X dL_law_2076 2077 rfl 6 rfl ?_
  refine v_iload X dL_law_2077 2079 rfl 1 rfl ?_
  refine v_iconst X dL_law_2079 2080 rfl ?_
  refine v_iadd X dL_law_2080 2081 rfl ?_
  refine v_scr X hM hX hbl hbf (by omega) (by omega) hLx ha2 dL_law_2081 2082 rfl ?_
  refine v_muV X hM (h_mo.1) (c_X10_areConnectedBySearch l E (x + 334) mo co a1 a2 hO hR hI hG ga1 ga2 q0 q1) kvX10_areConnectedBySearch kiX10_areConnectedBySearch kl_L_287 (q0 := 0) rfl rfl (As := [.int (zI a1), .int (zI a2)]) rfl rfl (rm_law rfl (by omega) (by omega)) dL_law_2082 2085 rfl (k' := kq + 1) (n' := nq + 6) rfl rfl (fsI (fun q q1 q2 => (Or.inr (by omega)))) h_mo (fun rv H3 lo3 hM hF hpo => ?_)
  obtain ⟨rfl, hw_0⟩ := hpo
  have h_mo : PR E (x + 334) (modelW E (x + 334) (updC mo 0 (updZ (mo 0) 0 0))) H3 := hw_0
  replace hzl := Nat.le_trans hzl hF.1
  replace h_cm := h_cm.kept hF 1 rfl (fsd (by omega))
  replace h_co := h_co.kept hF 28 rfl (fsd (by omega))
  replace h_bf := h_bf.kept hF 28 rfl (fsd (by omega))
  replace h_sv := h_sv.kept hF 28 rfl (fsd (by omega))
  replace h_hi := h_hi.kept hF 2 rfl (fsd (by omega))
  replace h_hf := h_hf.kept hF (fsd (by omega))
  replace h_dk := h_dk.kept hF 3 rfl (fsd (by omega))
  replace h_se := h_se.kept hF 5 rfl (fsd (by omega))
  replace h_pg := h_pg.kept hF 1 rfl (fsd (by omega))
  replace h_sb := h_sb.kept hF 1 rfl (fsd (by omega))
  replace h_sa := h_sa.kept hF 1 rfl (fsd (by omega))
  replace h_pr := h_pr.kept hF 10 rfl (fsd (by omega))
  replace h_ln := h_ln.kept hF 1 rfl (fsd (by omega))
  replace h_la := h_la.kept hF 1 rfl (fsd (by omega))
  replace h_out := h_out.kept hF 1 rfl (fsd (by omega))
  replace h_outD := h_outD.kept hF 1 rfl (fsd (by omega))
  show V p l e room_1 s m args below meth cd Q 9 H3 lo3 (kq + 1) (nq + 6) 2085 [(6, .int (zI 0)), (5, .int (zI i)), (4, .ref (x + 340)), (3, .ref (x + 339)), (2, .ref (x + 334)), (1, .ref x), (0, .ref b)] [.int (zI (bz (rtF (co 13) 8 a1 = rtF (co 13) 8 a2)))]
  refine v_istore X dL_law_2085 2087 rfl (by decide) (L' := [(7, .int (zI (bz (rtF (co 13) 8 a1 = rtF (co 13) 8 a2)))), (6, .int (zI 0)), (5, .int (zI i)), (4, .ref (x + 340)), (3, .ref (x + 339)), (2, .ref (x + 334)), (1, .ref x), (0, .ref b)]) rfl ?_
  refine v_aload_n X dL_law_2087 2088 rfl 5 rfl ?_
  refine v_rdV X hM.C h_mo.1 (c_X10_thrown l E (x + 334) (updC mo 0 (updZ (mo 0) 0 0))) kvX10_thrown kiX10_thrown kl_L_196 rfl rfl (As := []) rfl rfl (rm_law0 rfl (by omega) (by omega)) dL_law_2088 2091 rfl ?_
  show V p l e room_1 s m args below meth cd Q 9 H3 lo3 (kq + 1) (nq + 6) 2091 [(7, .int (zI (bz (rtF (co 13) 8 a1 = rtF (co 13) 8 a2)))), (6, .int (zI 0)), (5, .int (zI i)), (4, .ref (x + 340)), (3, .ref (x + 339)), (2, .ref (x + 334)), (1, .ref x), (0, .ref b)] [.int (zI 0)]
  refine v_iload X dL_law_2091 2093 rfl 1 rfl ?_
  refine v_icmp_eq X (by omega) (by omega) dL_law_2093 2096 2098 rfl (by decide) (fun c_4 => ?_) (fun c_4 => ?_)
  · skip
    refine v_iload X dL_law_2098 2100 rfl 1 rfl ?_
    refine v_if_ne X (by omega) dL_law_2100 2103 2122 rfl (by decide) (fun c_5 => ?_) (fun c_5 => ?_)
    · skip
      exfalso; omega
    · skip
      refine v_aload_n X dL_law_2103 2104 rfl 4 rfl ?_
      refine v_iconst X dL_law_2104 2105 rfl ?_
      refine v_lald X hM.C h_out.1 0 rfl dL_law_2105 2106 rfl ?_
      show V p l e room_1 s m args below meth cd Q 9 H3 lo3 (kq + 1) (nq + 6) 2106 [(7, .int (zI (bz (rtF (co 13) 8 a1 = rtF (co 13) 8 a2)))), (6, .int (zI 0)), (5, .int (zI i)), (4, .ref (x + 340)), (3, .ref (x + 339)), (2, .ref (x + 334)), (1, .ref x), (0, .ref b)] [.long (zL (bz (rtF (co 13) 8 a1 = rtF (co 13) 8 a2)))]
      refine v_iload X dL_law_2106 2108 rfl 0 rfl ?_
      refine v_bif_eq X dL_law_2108 2111 2115 rfl (by decide) (fun c_6 => ?_) (fun c_6 => ?_)
      · skip
        refine v_lconst 0 X dL_law_2115 rfl 2116 rfl ?_
        refine V_S (st' := [.long (zL 0), .long (zL 0)]) (by rw [show (bz (rtF (co 13) 8 a1 = rtF (co 13) 8 a2) : Int) = 0 from bz_f (by first | assumption | omega)]) ?_
        refine v_lcmp0 X dL_law_2116 2117 rfl ?_
        refine v_if_eq X (by omega) dL_law_2117 2120 2122 rfl (by decide) (fun c_7 => ?_) (fun c_7 => ?_)
        · skip
          refine v_goto X dL_law_2122 3555 (by decide) ?_
          refine v_widen (k' := kq + 60) (n' := nq + 4000) (by omega) (by omega) ?_
          exact V_pick [2, 3, 4, 5, 6, 7] rfl (kk _ _ hM ⟨hzl, _, _, _, _, _, _, _, _, _, _, _, _, _, _, _, _, _, _, _, _, _, _, _, _, _, _, _, _, ⟨h_cm, h_co, h_bf, h_sv, h_hi, h_hf, h_dk, h_se, h_pg, h_sb, h_sa, h_pr, h_ln, h_la, h_mo, h_out, h_outD⟩, hP0.mo_0⟩)
        · skip
          exfalso; omega
      · skip
        refine v_lconst 1 X dL_law_2111 rfl 2112 rfl ?_
        refine v_goto X dL_law_2112 2116 (by decide) ?_
        refine V_S (st' := [.long (zL 1), .long (zL 1)]) (by rw [show (bz (rtF (co 13) 8 a1 = rtF (co 13) 8 a2) : Int) = 1 from bz_t (by first | assumption | omega)]) ?_
        refine v_lcmp0 X dL_law_2116 2117 rfl ?_
        refine v_if_eq X (by omega) dL_law_2117 2120 2122 rfl (by decide) (fun c_8 => ?_) (fun c_8 => ?_)
        · skip
          refine v_goto X dL_law_2122 3555 (by decide) ?_
          refine v_widen (k' := kq + 60) (n' := nq + 4000) (by omega) (by omega) ?_
          exact V_pick [2, 3, 4, 5, 6, 7] rfl (kk _ _ hM ⟨hzl, _, _, _, _, _, _, _, _, _, _, _, _, _, _, _, _, _, _, _, _, _, _, _, _, _, _, _, _, ⟨h_cm, h_co, h_bf, h_sv, h_hi, h_hf, h_dk, h_se, h_pg, h_sb, h_sa, h_pr, h_ln, h_la, h_mo, h_out, h_outD⟩, hP0.mo_0⟩)
        · skip
          exfalso; omega
  · skip
    exfalso; omega
set_option maxHeartbeats 4000000 in
set_option maxRecDepth 20000 in
theorem lo_areConnectedBySearch_1 (hl : l.stackTraces = false) (X : CF p m cd code 9 s args RL) (hX : va_X b Lx xs s s.heap) (hbl : b < s.heap.size) (hLx : Lx ≤ 2560) (hM : MS E [] s H lo) (hk : kq + 60 ≤ 603072) (hn : nq + 4000 ≤ 7211113) (hx : s.heap.size ≤ x) (hzl : x + 341 ≤ H.size) {v : Nat} {N : Nat} {f : Int → Int} {nn : Int} {v2 : Nat} {N2 : Nat} {f2 : Int → Int} {n2 : Int} {co : Nat → Int → Int} {bf : Nat → Int → Int} {cv : Nat → Int → Int} {hc : Nat → Nat → Int → Int} {nx : Int} {sz : Int} {hs : Int} {er : Int} {fa : Int} {ss : Int} {dk : Nat → Int → Int} {se : Nat → Int → Int} {po : Int} {si : Int} {pr : Nat → Int → Int} {ml : Int} {ml2 : Int} {mo : Nat → Int → Int} {lg : Nat → Int64} {dg : Nat → UInt64} (hW : LawW E x v N f nn v2 N2 f2 n2 co bf cv hc nx sz hs er fa ss dk se po si pr ml ml2 mo lg dg H) (hP : LawP x v N f nn v2 N2 f2 n2 co cv hc nx sz hs er fa ss po si pr mo) (i0 : 0 ≤ i) (i1 : i + 5 ≤ (Lx : Int)) {a1 : Int} (ha1 : (xs (i + 1).toNat).toInt = a1) (ga1 : Rg a1) {a2 : Int} (ha2 : (xs (i + 2).toNat).toInt = a2) (ga2 : Rg a2) (q0 : ¬ (0 ≤ a1 ∧ a1 < co 0 1)) (kk : ∀ (H1 : Heap) (lo1 : List Loc), MS E [] s H1 lo1 → LawI E x H1 → V p l e room_1 s m args below meth cd Q 9 H1 lo1 (kq + 60) (nq + 4000) 3555 [(5, .int (zI i)), (4, .ref (x + 340)), (3, .ref (x + 339)), (2, .ref (x + 334)), (1, .ref x), (0, .ref b)] []) : V p l e room_1 s m args below meth cd Q 9 H lo kq nq 2050 [(5, .int (zI i)), (4, .ref (x + 340)), (3, .ref (x + 339)), (2, .ref (x + 334)), (1, .ref x), (0, .ref b)] [] := by
  obtain ⟨h_cm, h_co, h_bf, h_sv, h_hi, h_hf, h_dk, h_se, h_pg, h_sb, h_sa, h_pr, h_ln, h_la, h_mo, h_out, h_outD⟩ := hW
  have hP0 := hP
  obtain ⟨⟨hD, hDv, hDh⟩, ⟨hRM, hch, hcs⟩, ⟨⟨n0, n1⟩, ⟨s0, s1⟩, hhs⟩, ⟨hm8, hnn, hAg, hNN, hnN, hf9⟩, ⟨T, hSB, hLT, hn38⟩, hPB, ⟨her, hfa, hss, ger, gfa, gss, gms⟩, ⟨gpo, gsi⟩, ⟨hv1, hv2, hvv⟩⟩ := hP
  have hO := hD.inv.ok
  have hI := hD.inv.ts
  have hSt := hD.inv.st
  have hS := hD.inv.sn
  have hR := hRM.1.2
  have hG := gp_inv hD
  have hb0 := hO.b0
  have hbw := hO.bw
  have hbf : ¬ Fr [] s.heap.size b := fun z => z.elim (fun q => q.elim) (fun q => by omega)
  refine v_aload_n X dL_law_2050 2051 rfl 4 rfl ?_
  refine v_aload_n X dL_law_2051 2052 rfl 5 rfl ?_
  refine v_iload X dL_law_2052 2054 rfl 0 rfl ?_
  refine v_iconst X dL_law_2054 2055 rfl ?_
  refine v_iadd X dL_law_2055 2056 rfl ?_
  refine v_scr X hM hX hbl hbf (by omega) (by omega) hLx ha1 dL_law_2056 2057 rfl ?_
  refine v_aload_n X dL_law_2057 2058 rfl 5 rfl ?_
  refine v_iload X dL_law_2058 2060 rfl 0 rfl ?_
  refine v_iconst X dL_law_2060 2061 rfl ?_
  refine v_iadd X dL_law_2061 2062 rfl ?_
  refine v_scr X hM hX hbl hbf (by omega) (by omega) hLx ha2 dL_law_2062 2063 rfl ?_
  refine v_aload_n X dL_law_2063 2064 rfl 2 rfl ?_
  refine v_mwS X hM (w_X9_areConnectedBySearch_0_t l hl E x co hs er fa ss a1 a2 (x + 339) lg hO ga1 ga2 q0) kwL_areConnectedBySearch ksL_areConnectedBySearch kl_L_285 (As := [.ref x, .int (zI a1), .int (zI a2), .ref (x + 339)]) rfl rfl (rm_lawW rfl (by omega) (by omega)) dL_law_2064 2067 rfl (k' := kq + 1) (n' := nq + 6) rfl rfl (fun q hq => hq.elim) ⟨h_cm, h_co, h_out⟩ (fun rv H1 lo1 hM hF hpo => ?_)
  subst hpo
  replace hzl := Nat.le_trans hzl hF.1
  replace h_cm := h_cm.kept hF 1 rfl (fun q _ _ h => h.elim)
  replace h_co := h_co.kept hF 28 rfl (fun q _ _ h => h.elim)
  replace h_bf := h_bf.kept hF 28 rfl (fun q _ _ h => h.elim)
  replace h_sv := h_sv.kept hF 28 rfl (fun q _ _ h => h.elim)
  replace h_hi := h_hi.kept hF 2 rfl (fun q _ _ h => h.elim)
  replace h_hf := h_hf.kept hF (fun q _ _ h => h.elim)
  replace h_dk := h_dk.kept hF 3 rfl (fun q _ _ h => h.elim)
  replace h_se := h_se.kept hF 5 rfl (fun q _ _ h => h.elim)
  replace h_pg := h_pg.kept hF 1 rfl (fun q _ _ h => h.elim)
  replace h_sb := h_sb.kept hF 1 rfl (fun q _ _ h => h.elim)
  replace h_sa := h_sa.kept hF 1 rfl (fun q _ _ h => h.elim)
  replace h_pr := h_pr.kept hF 10 rfl (fun q _ _ h => h.elim)
  replace h_ln := h_ln.kept hF 1 rfl (fun q _ _ h => h.elim)
  replace h_la := h_la.kept hF 1 rfl (fun q _ _ h => h.elim)
  replace h_mo := h_mo.kept hF 5 rfl (fun q _ _ h => h.elim)
  replace h_out := h_out.kept hF 1 rfl (fun q _ _ h => h.elim)
  replace h_outD := h_outD.kept hF 1 rfl (fun q _ _ h => h.elim)
  show V p l e room_1 s m args below meth cd Q 9 H1 lo1 (kq + 1) (nq + 6) 2067 [(5, .int (zI i)), (4, .ref (x + 340)), (3, .ref (x + 339)), (2, .ref (x + 334)), (1, .ref x), (0, .ref b)] [.int (zI 1)]
  refine v_istore X dL_law_2067 2069 rfl (by decide) (L' := [(6, .int (zI 1)), (5, .int (zI i)), (4, .ref (x + 340)), (3, .ref (x + 339)), (2, .ref (x + 334)), (1, .ref x), (0, .ref b)]) rfl ?_
  refine v_aload_n X dL_law_2069 2070 rfl 4 rfl ?_
  refine v_aload_n X dL_law_2070 2071 rfl 6 rfl ?_
  refine v_iload X dL_law_2071 2073 rfl 1 rfl ?_
  refine v_iconst X dL_law_2073 2074 rfl ?_
  refine v_iadd X dL_law_2074 2075 rfl ?_
  refine v_scr X hM hX hbl hbf (by omega) (by omega) hLx ha1 dL_law_2075 2076 rfl ?_
  refine v_aload_n X dL_law_2076 2077 rfl 6 rfl ?_
  refine v_iload X dL_law_2077 2079 rfl 1 rfl ?_
  refine v_iconst X dL_law_2079 2080 rfl ?_
  refine v_iadd X dL_law_2080 2081 rfl ?_
  refine v_scr X hM hX hbl hbf (by omega) (by omega) hLx ha2 dL_law_2081 2082 rfl ?_
  refine v_muV X hM (h_mo.1) (c_X10_areConnectedBySearch_0 l E (x + 334) mo co a1 a2 hO hR hI hG ga1 ga2 q0) kvX10_areConnectedBySearch kiX10_areConnectedBySearch kl_L_287 (q0 := 0) rfl rfl (As := [.int (zI a1), .int (zI a2)]) rfl rfl (rm_law rfl (by omega) (by omega)) dL_law_2082 2085 rfl (k' := kq + 1) (n' := nq + 6) rfl rfl (fsI (fun q q1 q2 => (Or.inr (by omega)))) h_mo (fun rv H2 lo2 hM hF hpo => ?_)
  obtain ⟨rfl, hw_0⟩ := hpo
  have h_mo : PR E (x + 334) (modelW E (x + 334) (updC mo 0 (updZ (mo 0) 0 1))) H2 := hw_0
  replace hzl := Nat.le_trans hzl hF.1
  replace h_cm := h_cm.kept hF 1 rfl (fsd (by omega))
  replace h_co := h_co.kept hF 28 rfl (fsd (by omega))
  replace h_bf := h_bf.kept hF 28 rfl (fsd (by omega))
  replace h_sv := h_sv.kept hF 28 rfl (fsd (by omega))
  replace h_hi := h_hi.kept hF 2 rfl (fsd (by omega))
  replace h_hf := h_hf.kept hF (fsd (by omega))
  replace h_dk := h_dk.kept hF 3 rfl (fsd (by omega))
  replace h_se := h_se.kept hF 5 rfl (fsd (by omega))
  replace h_pg := h_pg.kept hF 1 rfl (fsd (by omega))
  replace h_sb := h_sb.kept hF 1 rfl (fsd (by omega))
  replace h_sa := h_sa.kept hF 1 rfl (fsd (by omega))
  replace h_pr := h_pr.kept hF 10 rfl (fsd (by omega))
  replace h_ln := h_ln.kept hF 1 rfl (fsd (by omega))
  replace h_la := h_la.kept hF 1 rfl (fsd (by omega))
  replace h_out := h_out.kept hF 1 rfl (fsd (by omega))
  replace h_outD := h_outD.kept hF 1 rfl (fsd (by omega))
  show V p l e room_1 s m args below meth cd Q 9 H2 lo2 (kq + 1) (nq + 6) 2085 [(6, .int (zI 1)), (5, .int (zI i)), (4, .ref (x + 340)), (3, .ref (x + 339)), (2, .ref (x + 334)), (1, .ref x), (0, .ref b)] [.int (zI 0)]
  refine v_istore X dL_law_2085 2087 rfl (by decide) (L' := [(7, .int (zI 0)), (6, .int (zI 1)), (5, .int (zI i)), (4, .ref (x + 340)), (3, .ref (x + 339)), (2, .ref (x + 334)), (1, .ref x), (0, .ref b)]) rfl ?_
  refine v_aload_n X dL_law_2087 2088 rfl 5 rfl ?_
  refine v_rdV X hM.C h_mo.1 (c_X10_thrown l E (x + 334) (updC mo 0 (updZ (mo 0) 0 1))) kvX10_thrown kiX10_thrown kl_L_196 rfl rfl (As := []) rfl rfl (rm_law0 rfl (by omega) (by omega)) dL_law_2088 2091 rfl ?_
  show V p l e room_1 s m args below meth cd Q 9 H2 lo2 (kq + 1) (nq + 6) 2091 [(7, .int (zI 0)), (6, .int (zI 1)), (5, .int (zI i)), (4, .ref (x + 340)), (3, .ref (x + 339)), (2, .ref (x + 334)), (1, .ref x), (0, .ref b)] [.int (zI 1)]
  refine v_iload X dL_law_2091 2093 rfl 1 rfl ?_
  refine v_icmp_eq X (by omega) (by omega) dL_law_2093 2096 2098 rfl (by decide) (fun c_3 => ?_) (fun c_3 => ?_)
  · skip
    refine v_iload X dL_law_2098 2100 rfl 1 rfl ?_
    refine v_if_ne X (by omega) dL_law_2100 2103 2122 rfl (by decide) (fun c_4 => ?_) (fun c_4 => ?_)
    · skip
      refine v_goto X dL_law_2122 3555 (by decide) ?_
      refine v_widen (k' := kq + 60) (n' := nq + 4000) (by omega) (by omega) ?_
      exact V_pick [2, 3, 4, 5, 6, 7] rfl (kk _ _ hM ⟨hzl, _, _, _, _, _, _, _, _, _, _, _, _, _, _, _, _, _, _, _, _, _, _, _, _, _, _, _, _, ⟨h_cm, h_co, h_bf, h_sv, h_hi, h_hf, h_dk, h_se, h_pg, h_sb, h_sa, h_pr, h_ln, h_la, h_mo, h_out, h_outD⟩, hP0.mo_0⟩)
    · skip
      exfalso; omega
  · skip
    exfalso; omega
set_option maxHeartbeats 4000000 in
set_option maxRecDepth 20000 in
theorem lo_areConnectedBySearch_2 (hl : l.stackTraces = false) (X : CF p m cd code 9 s args RL) (hX : va_X b Lx xs s s.heap) (hbl : b < s.heap.size) (hLx : Lx ≤ 2560) (hM : MS E [] s H lo) (hk : kq + 60 ≤ 603072) (hn : nq + 4000 ≤ 7211113) (hx : s.heap.size ≤ x) (hzl : x + 341 ≤ H.size) {v : Nat} {N : Nat} {f : Int → Int} {nn : Int} {v2 : Nat} {N2 : Nat} {f2 : Int → Int} {n2 : Int} {co : Nat → Int → Int} {bf : Nat → Int → Int} {cv : Nat → Int → Int} {hc : Nat → Nat → Int → Int} {nx : Int} {sz : Int} {hs : Int} {er : Int} {fa : Int} {ss : Int} {dk : Nat → Int → Int} {se : Nat → Int → Int} {po : Int} {si : Int} {pr : Nat → Int → Int} {ml : Int} {ml2 : Int} {mo : Nat → Int → Int} {lg : Nat → Int64} {dg : Nat → UInt64} (hW : LawW E x v N f nn v2 N2 f2 n2 co bf cv hc nx sz hs er fa ss dk se po si pr ml ml2 mo lg dg H) (hP : LawP x v N f nn v2 N2 f2 n2 co cv hc nx sz hs er fa ss po si pr mo) (i0 : 0 ≤ i) (i1 : i + 5 ≤ (Lx : Int)) {a1 : Int} (ha1 : (xs (i + 1).toNat).toInt = a1) (ga1 : Rg a1) {a2 : Int} (ha2 : (xs (i + 2).toNat).toInt = a2) (ga2 : Rg a2) (q0 : 0 ≤ a1 ∧ a1 < co 0 1) (q1 : ¬ (0 ≤ a2 ∧ a2 < co 0 1)) (kk : ∀ (H1 : Heap) (lo1 : List Loc), MS E [] s H1 lo1 → LawI E x H1 → V p l e room_1 s m args below meth cd Q 9 H1 lo1 (kq + 60) (nq + 4000) 3555 [(5, .int (zI i)), (4, .ref (x + 340)), (3, .ref (x + 339)), (2, .ref (x + 334)), (1, .ref x), (0, .ref b)] []) : V p l e room_1 s m args below meth cd Q 9 H lo kq nq 2050 [(5, .int (zI i)), (4, .ref (x + 340)), (3, .ref (x + 339)), (2, .ref (x + 334)), (1, .ref x), (0, .ref b)] [] := by
  obtain ⟨h_cm, h_co, h_bf, h_sv, h_hi, h_hf, h_dk, h_se, h_pg, h_sb, h_sa, h_pr, h_ln, h_la, h_mo, h_out, h_outD⟩ := hW
  have hP0 := hP
  obtain ⟨⟨hD, hDv, hDh⟩, ⟨hRM, hch, hcs⟩, ⟨⟨n0, n1⟩, ⟨s0, s1⟩, hhs⟩, ⟨hm8, hnn, hAg, hNN, hnN, hf9⟩, ⟨T, hSB, hLT, hn38⟩, hPB, ⟨her, hfa, hss, ger, gfa, gss, gms⟩, ⟨gpo, gsi⟩, ⟨hv1, hv2, hvv⟩⟩ := hP
  have hO := hD.inv.ok
  have hI := hD.inv.ts
  have hSt := hD.inv.st
  have hS := hD.inv.sn
  have hR := hRM.1.2
  have hG := gp_inv hD
  have hb0 := hO.b0
  have hbw := hO.bw
  have hbf : ¬ Fr [] s.heap.size b := fun z => z.elim (fun q => q.elim) (fun q => by omega)
  refine v_aload_n X dL_law_2050 2051 rfl 4 rfl ?_
  refine v_aload_n X dL_law_2051 2052 rfl 5 rfl ?_
  refine v_iload X dL_law_2052 2054 rfl 0 rfl ?_
  refine v_iconst X dL_law_2054 2055 rfl ?_
  refine v_iadd X dL_law_2055 2056 rfl ?_
  refine v_scr X hM hX hbl hbf (by omega) (by omega) hLx ha1 dL_law_2056 2057 rfl ?_
  refine v_aload_n X dL_law_2057 2058 rfl 5 rfl ?_
  refine v_iload X dL_law_2058 2060 rfl 0 rfl ?_
  refine v_iconst X dL_law_2060 2061 rfl ?_
  refine v_iadd X dL_law_2061 2062 rfl ?_
  refine v_scr X hM hX hbl hbf (by omega) (by omega) hLx ha2 dL_law_2062 2063 rfl ?_
  refine v_aload_n X dL_law_2063 2064 rfl 2 rfl ?_
  refine v_mwS X hM (w_X9_areConnectedBySearch_1_t l hl E x co hs er fa ss a1 a2 (x + 339) lg hO ga1 ga2 q0 q1) kwL_areConnectedBySearch ksL_areConnectedBySearch kl_L_285 (As := [.ref x, .int (zI a1), .int (zI a2), .ref (x + 339)]) rfl rfl (rm_lawW rfl (by omega) (by omega)) dL_law_2064 2067 rfl (k' := kq + 1) (n' := nq + 6) rfl rfl (fun q hq => hq.elim) ⟨h_cm, h_co, h_out⟩ (fun rv H1 lo1 hM hF hpo => ?_)
  subst hpo
  replace hzl := Nat.le_trans hzl hF.1
  replace h_cm := h_cm.kept hF 1 rfl (fun q _ _ h => h.elim)
  replace h_co := h_co.kept hF 28 rfl (fun q _ _ h => h.elim)
  replace h_bf := h_bf.kept hF 28 rfl (fun q _ _ h => h.elim)
  replace h_sv := h_sv.kept hF 28 rfl (fun q _ _ h => h.elim)
  replace h_hi := h_hi.kept hF 2 rfl (fun q _ _ h => h.elim)
  replace h_hf := h_hf.kept hF (fun q _ _ h => h.elim)
  replace h_dk := h_dk.kept hF 3 rfl (fun q _ _ h => h.elim)
  replace h_se := h_se.kept hF 5 rfl (fun q _ _ h => h.elim)
  replace h_pg := h_pg.kept hF 1 rfl (fun q _ _ h => h.elim)
  replace h_sb := h_sb.kept hF 1 rfl (fun q _ _ h => h.elim)
  replace h_sa := h_sa.kept hF 1 rfl (fun q _ _ h => h.elim)
  replace h_pr := h_pr.kept hF 10 rfl (fun q _ _ h => h.elim)
  replace h_ln := h_ln.kept hF 1 rfl (fun q _ _ h => h.elim)
  replace h_la := h_la.kept hF 1 rfl (fun q _ _ h => h.elim)
  replace h_mo := h_mo.kept hF 5 rfl (fun q _ _ h => h.elim)
  replace h_out := h_out.kept hF 1 rfl (fun q _ _ h => h.elim)
  replace h_outD := h_outD.kept hF 1 rfl (fun q _ _ h => h.elim)
  show V p l e room_1 s m args below meth cd Q 9 H1 lo1 (kq + 1) (nq + 6) 2067 [(5, .int (zI i)), (4, .ref (x + 340)), (3, .ref (x + 339)), (2, .ref (x + 334)), (1, .ref x), (0, .ref b)] [.int (zI 1)]
  refine v_istore X dL_law_2067 2069 rfl (by decide) (L' := [(6, .int (zI 1)), (5, .int (zI i)), (4, .ref (x + 340)), (3, .ref (x + 339)), (2, .ref (x + 334)), (1, .ref x), (0, .ref b)]) rfl ?_
  refine v_aload_n X dL_law_2069 2070 rfl 4 rfl ?_
  refine v_aload_n X dL_law_2070 2071 rfl 6 rfl ?_
  refine v_iload X dL_law_2071 2073 rfl 1 rfl ?_
  refine v_iconst X dL_law_2073 2074 rfl ?_
  refine v_iadd X dL_law_2074 2075 rfl ?_
  refine v_scr X hM hX hbl hbf (by omega) (by omega) hLx ha1 dL_law_2075 2076 rfl ?_
  refine v_aload_n X dL_law_2076 2077 rfl 6 rfl ?_
  refine v_iload X dL_law_2077 2079 rfl 1 rfl ?_
  refine v_iconst X dL_law_2079 2080 rfl ?_
  refine v_iadd X dL_law_2080 2081 rfl ?_
  refine v_scr X hM hX hbl hbf (by omega) (by omega) hLx ha2 dL_law_2081 2082 rfl ?_
  refine v_muV X hM (h_mo.1) (c_X10_areConnectedBySearch_1 l E (x + 334) mo co a1 a2 hO hR hI hG ga1 ga2 q0 q1) kvX10_areConnectedBySearch kiX10_areConnectedBySearch kl_L_287 (q0 := 0) rfl rfl (As := [.int (zI a1), .int (zI a2)]) rfl rfl (rm_law rfl (by omega) (by omega)) dL_law_2082 2085 rfl (k' := kq + 1) (n' := nq + 6) rfl rfl (fsI (fun q q1 q2 => (Or.inr (by omega)))) h_mo (fun rv H2 lo2 hM hF hpo => ?_)
  obtain ⟨rfl, hw_0⟩ := hpo
  have h_mo : PR E (x + 334) (modelW E (x + 334) (updC mo 0 (updZ (mo 0) 0 1))) H2 := hw_0
  replace hzl := Nat.le_trans hzl hF.1
  replace h_cm := h_cm.kept hF 1 rfl (fsd (by omega))
  replace h_co := h_co.kept hF 28 rfl (fsd (by omega))
  replace h_bf := h_bf.kept hF 28 rfl (fsd (by omega))
  replace h_sv := h_sv.kept hF 28 rfl (fsd (by omega))
  replace h_hi := h_hi.kept hF 2 rfl (fsd (by omega))
  replace h_hf := h_hf.kept hF (fsd (by omega))
  replace h_dk := h_dk.kept hF 3 rfl (fsd (by omega))
  replace h_se := h_se.kept hF 5 rfl (fsd (by omega))
  replace h_pg := h_pg.kept hF 1 rfl (fsd (by omega))
  replace h_sb := h_sb.kept hF 1 rfl (fsd (by omega))
  replace h_sa := h_sa.kept hF 1 rfl (fsd (by omega))
  replace h_pr := h_pr.kept hF 10 rfl (fsd (by omega))
  replace h_ln := h_ln.kept hF 1 rfl (fsd (by omega))
  replace h_la := h_la.kept hF 1 rfl (fsd (by omega))
  replace h_out := h_out.kept hF 1 rfl (fsd (by omega))
  replace h_outD := h_outD.kept hF 1 rfl (fsd (by omega))
  show V p l e room_1 s m args below meth cd Q 9 H2 lo2 (kq + 1) (nq + 6) 2085 [(6, .int (zI 1)), (5, .int (zI i)), (4, .ref (x + 340)), (3, .ref (x + 339)), (2, .ref (x + 334)), (1, .ref x), (0, .ref b)] [.int (zI 0)]
  refine v_istore X dL_law_2085 2087 rfl (by decide) (L' := [(7, .int (zI 0)), (6, .int (zI 1)), (5, .int (zI i)), (4, .ref (x + 340)), (3, .ref (x + 339)), (2, .ref (x + 334)), (1, .ref x), (0, .ref b)]) rfl ?_
  refine v_aload_n X dL_law_2087 2088 rfl 5 rfl ?_
  refine v_rdV X hM.C h_mo.1 (c_X10_thrown l E (x + 334) (updC mo 0 (updZ (mo 0) 0 1))) kvX10_thrown kiX10_thrown kl_L_196 rfl rfl (As := []) rfl rfl (rm_law0 rfl (by omega) (by omega)) dL_law_2088 2091 rfl ?_
  show V p l e room_1 s m args below meth cd Q 9 H2 lo2 (kq + 1) (nq + 6) 2091 [(7, .int (zI 0)), (6, .int (zI 1)), (5, .int (zI i)), (4, .ref (x + 340)), (3, .ref (x + 339)), (2, .ref (x + 334)), (1, .ref x), (0, .ref b)] [.int (zI 1)]
  refine v_iload X dL_law_2091 2093 rfl 1 rfl ?_
  refine v_icmp_eq X (by omega) (by omega) dL_law_2093 2096 2098 rfl (by decide) (fun c_3 => ?_) (fun c_3 => ?_)
  · skip
    refine v_iload X dL_law_2098 2100 rfl 1 rfl ?_
    refine v_if_ne X (by omega) dL_law_2100 2103 2122 rfl (by decide) (fun c_4 => ?_) (fun c_4 => ?_)
    · skip
      refine v_goto X dL_law_2122 3555 (by decide) ?_
      refine v_widen (k' := kq + 60) (n' := nq + 4000) (by omega) (by omega) ?_
      exact V_pick [2, 3, 4, 5, 6, 7] rfl (kk _ _ hM ⟨hzl, _, _, _, _, _, _, _, _, _, _, _, _, _, _, _, _, _, _, _, _, _, _, _, _, _, _, _, _, ⟨h_cm, h_co, h_bf, h_sv, h_hi, h_hf, h_dk, h_se, h_pg, h_sb, h_sa, h_pr, h_ln, h_la, h_mo, h_out, h_outD⟩, hP0.mo_0⟩)
    · skip
      exfalso; omega
  · skip
    exfalso; omega
set_option maxHeartbeats 4000000 in
set_option maxRecDepth 20000 in
theorem lo_isConsistent (hl : l.stackTraces = false) (X : CF p m cd code 9 s args RL) (hX : va_X b Lx xs s s.heap) (hbl : b < s.heap.size) (hLx : Lx ≤ 2560) (hM : MS E [] s H lo) (hk : kq + 60 ≤ 603072) (hn : nq + 4000 ≤ 7211113) (hx : s.heap.size ≤ x) (hzl : x + 341 ≤ H.size) {v : Nat} {N : Nat} {f : Int → Int} {nn : Int} {v2 : Nat} {N2 : Nat} {f2 : Int → Int} {n2 : Int} {co : Nat → Int → Int} {bf : Nat → Int → Int} {cv : Nat → Int → Int} {hc : Nat → Nat → Int → Int} {nx : Int} {sz : Int} {hs : Int} {er : Int} {fa : Int} {ss : Int} {dk : Nat → Int → Int} {se : Nat → Int → Int} {po : Int} {si : Int} {pr : Nat → Int → Int} {ml : Int} {ml2 : Int} {mo : Nat → Int → Int} {lg : Nat → Int64} {dg : Nat → UInt64} (hW : LawW E x v N f nn v2 N2 f2 n2 co bf cv hc nx sz hs er fa ss dk se po si pr ml ml2 mo lg dg H) (hP : LawP x v N f nn v2 N2 f2 n2 co cv hc nx sz hs er fa ss po si pr mo) (i0 : 0 ≤ i) (i1 : i + 5 ≤ (Lx : Int)) (kk : ∀ (H1 : Heap) (lo1 : List Loc), MS E [] s H1 lo1 → LawI E x H1 → V p l e room_1 s m args below meth cd Q 9 H1 lo1 (kq + 60) (nq + 4000) 3555 [(5, .int (zI i)), (4, .ref (x + 340)), (3, .ref (x + 339)), (2, .ref (x + 334)), (1, .ref x), (0, .ref b)] []) : V p l e room_1 s m args below meth cd Q 9 H lo kq nq 3019 [(5, .int (zI i)), (4, .ref (x + 340)), (3, .ref (x + 339)), (2, .ref (x + 334)), (1, .ref x), (0, .ref b)] [] := by
  obtain ⟨h_cm, h_co, h_bf, h_sv, h_hi, h_hf, h_dk, h_se, h_pg, h_sb, h_sa, h_pr, h_ln, h_la, h_mo, h_out, h_outD⟩ := hW
  have hP0 := hP
  obtain ⟨⟨hD, hDv, hDh⟩, ⟨hRM, hch, hcs⟩, ⟨⟨n0, n1⟩, ⟨s0, s1⟩, hhs⟩, ⟨hm8, hnn, hAg, hNN, hnN, hf9⟩, ⟨T, hSB, hLT, hn38⟩, hPB, ⟨her, hfa, hss, ger, gfa, gss, gms⟩, ⟨gpo, gsi⟩, ⟨hv1, hv2, hvv⟩⟩ := hP
  have hO := hD.inv.ok
  have hI := hD.inv.ts
  have hSt := hD.inv.st
  have hS := hD.inv.sn
  have hR := hRM.1.2
  have hG := gp_inv hD
  have hb0 := hO.b0
  have hbw := hO.bw
  have hbf : ¬ Fr [] s.heap.size b := fun z => z.elim (fun q => q.elim) (fun q => by omega)
  refine v_aload_n X dL_law_3019 3020 rfl 4 rfl ?_
  refine v_muV X hM (h_cm.1) (c_X9_isConsistent l E x co hs er fa ss se dk hO (fun k _ _ => ma_inv hO k) hS (ca_inv hD) (da_inv co hO) (by omega) (by omega) (by omega) (by omega) (by omega)) kvX9_isConsistent kiX9_isConsistent kl_L_360 (q0 := 0) rfl rfl (As := []) rfl rfl (rm_law rfl (by omega) (by omega)) dL_law_3020 3023 rfl (k' := kq + 0) (n' := nq + 0) rfl rfl (by intro q hq; simp only [Fr, Fs, or_false, false_or] at hq ⊢; omega) ⟨h_cm, h_co, h_dk, h_se⟩ (fun rv H1 lo1 hM hF hpo => ?_)
  obtain ⟨sq_2, rfl, hw_0, hw_1⟩ := hpo
  have h_dk : PR E (x + 311) (docketW E (x + 311) (updC (updC dk 0 (updZ (dk 0) 1 (dkM co (co 0 0).toNat : Int))) 1 (dkG co ((dk 1)) (co 0 0).toNat))) H1 := hw_0
  have h_se : PR E (x + 314) (searchW E (x + 314) sq_2) H1 := hw_1
  replace hzl := Nat.le_trans hzl hF.1
  replace h_cm := h_cm.kept hF 1 rfl (by intro q q1 q2 q3; simp only [Fs, or_false] at q3; omega)
  replace h_co := h_co.kept hF 28 rfl (by intro q q1 q2 q3; simp only [Fs, or_false] at q3; omega)
  replace h_bf := h_bf.kept hF 28 rfl (by intro q q1 q2 q3; simp only [Fs, or_false] at q3; omega)
  replace h_sv := h_sv.kept hF 28 rfl (by intro q q1 q2 q3; simp only [Fs, or_false] at q3; omega)
  replace h_hi := h_hi.kept hF 2 rfl (by intro q q1 q2 q3; simp only [Fs, or_false] at q3; omega)
  replace h_hf := h_hf.kept hF (by intro q q1 q2 q3; simp only [Fs, or_false] at q3; omega)
  replace h_pg := h_pg.kept hF 1 rfl (by intro q q1 q2 q3; simp only [Fs, or_false] at q3; omega)
  replace h_sb := h_sb.kept hF 1 rfl (by intro q q1 q2 q3; simp only [Fs, or_false] at q3; omega)
  replace h_sa := h_sa.kept hF 1 rfl (by intro q q1 q2 q3; simp only [Fs, or_false] at q3; omega)
  replace h_pr := h_pr.kept hF 10 rfl (by intro q q1 q2 q3; simp only [Fs, or_false] at q3; omega)
  replace h_ln := h_ln.kept hF 1 rfl (by intro q q1 q2 q3; simp only [Fs, or_false] at q3; omega)
  replace h_la := h_la.kept hF 1 rfl (by intro q q1 q2 q3; simp only [Fs, or_false] at q3; omega)
  replace h_mo := h_mo.kept hF 5 rfl (by intro q q1 q2 q3; simp only [Fs, or_false] at q3; omega)
  replace h_out := h_out.kept hF 1 rfl (by intro q q1 q2 q3; simp only [Fs, or_false] at q3; omega)
  replace h_outD := h_outD.kept hF 1 rfl (by intro q q1 q2 q3; simp only [Fs, or_false] at q3; omega)
  show V p l e room_1 s m args below meth cd Q 9 H1 lo1 kq nq 3023 [(5, .int (zI i)), (4, .ref (x + 340)), (3, .ref (x + 339)), (2, .ref (x + 334)), (1, .ref x), (0, .ref b)] [.int (zI 1)]
  refine v_aload_n X dL_law_3023 3024 rfl 3 rfl ?_
  refine v_muV X hM (h_mo.1) (c_X10_isConsistent l E (x + 334) mo co hO hR) kvX10_isConsistent kiX10_isConsistent kl_L_363 (q0 := 0) rfl rfl (As := []) rfl rfl (rm_law rfl (by omega) (by omega)) dL_law_3024 3027 rfl (k' := kq + 0) (n' := nq + 0) rfl rfl (fsI (fun q q1 q2 => (Or.inr (by omega)))) h_mo (fun rv H3 lo3 hM hF hpo => ?_)
  obtain ⟨rfl, hw_0⟩ := hpo
  have h_mo : PR E (x + 334) (modelW E (x + 334) (updC mo 0 (updZ (mo 0) 0 0))) H3 := hw_0
  replace hzl := Nat.le_trans hzl hF.1
  replace h_cm := h_cm.kept hF 1 rfl (fsd (by omega))
  replace h_co := h_co.kept hF 28 rfl (fsd (by omega))
  replace h_bf := h_bf.kept hF 28 rfl (fsd (by omega))
  replace h_sv := h_sv.kept hF 28 rfl (fsd (by omega))
  replace h_hi := h_hi.kept hF 2 rfl (fsd (by omega))
  replace h_hf := h_hf.kept hF (fsd (by omega))
  replace h_dk := h_dk.kept hF 3 rfl (fsd (by omega))
  replace h_se := h_se.kept hF 5 rfl (fsd (by omega))
  replace h_pg := h_pg.kept hF 1 rfl (fsd (by omega))
  replace h_sb := h_sb.kept hF 1 rfl (fsd (by omega))
  replace h_sa := h_sa.kept hF 1 rfl (fsd (by omega))
  replace h_pr := h_pr.kept hF 10 rfl (fsd (by omega))
  replace h_ln := h_ln.kept hF 1 rfl (fsd (by omega))
  replace h_la := h_la.kept hF 1 rfl (fsd (by omega))
  replace h_out := h_out.kept hF 1 rfl (fsd (by omega))
  replace h_outD := h_outD.kept hF 1 rfl (fsd (by omega))
  show V p l e room_1 s m args below meth cd Q 9 H3 lo3 kq nq 3027 [(5, .int (zI i)), (4, .ref (x + 340)), (3, .ref (x + 339)), (2, .ref (x + 334)), (1, .ref x), (0, .ref b)] [.int (zI 1), .int (zI 1)]
  refine v_icmp_eq X (by omega) (by omega) dL_law_3027 3030 3555 rfl (by decide) (fun c_4 => ?_) (fun c_4 => ?_)
  · skip
    refine v_widen (k' := kq + 60) (n' := nq + 4000) (by omega) (by omega) ?_
    exact V_pick [0, 1, 2, 3, 4, 5] rfl (kk _ _ hM ⟨hzl, _, _, _, _, _, _, _, _, _, _, _, _, _, _, _, _, _, _, _, _, _, _, _, _, _, _, _, _, ⟨h_cm, h_co, h_bf, h_sv, h_hi, h_hf, h_dk, h_se, h_pg, h_sb, h_sa, h_pr, h_ln, h_la, h_mo, h_out, h_outD⟩, hP0.mo_0⟩)
  · skip
    exfalso; omega
set_option maxHeartbeats 4000000 in
set_option maxRecDepth 20000 in
theorem lo_errorPosition (hl : l.stackTraces = false) (X : CF p m cd code 9 s args RL) (hX : va_X b Lx xs s s.heap) (hbl : b < s.heap.size) (hLx : Lx ≤ 2560) (hM : MS E [] s H lo) (hk : kq + 60 ≤ 603072) (hn : nq + 4000 ≤ 7211113) (hx : s.heap.size ≤ x) (hzl : x + 341 ≤ H.size) {v : Nat} {N : Nat} {f : Int → Int} {nn : Int} {v2 : Nat} {N2 : Nat} {f2 : Int → Int} {n2 : Int} {co : Nat → Int → Int} {bf : Nat → Int → Int} {cv : Nat → Int → Int} {hc : Nat → Nat → Int → Int} {nx : Int} {sz : Int} {hs : Int} {er : Int} {fa : Int} {ss : Int} {dk : Nat → Int → Int} {se : Nat → Int → Int} {po : Int} {si : Int} {pr : Nat → Int → Int} {ml : Int} {ml2 : Int} {mo : Nat → Int → Int} {lg : Nat → Int64} {dg : Nat → UInt64} (hW : LawW E x v N f nn v2 N2 f2 n2 co bf cv hc nx sz hs er fa ss dk se po si pr ml ml2 mo lg dg H) (hP : LawP x v N f nn v2 N2 f2 n2 co cv hc nx sz hs er fa ss po si pr mo) (i0 : 0 ≤ i) (i1 : i + 5 ≤ (Lx : Int)) (q0 : ¬ er = -1) (kk : ∀ (H1 : Heap) (lo1 : List Loc), MS E [] s H1 lo1 → LawI E x H1 → V p l e room_1 s m args below meth cd Q 9 H1 lo1 (kq + 60) (nq + 4000) 3555 [(5, .int (zI i)), (4, .ref (x + 340)), (3, .ref (x + 339)), (2, .ref (x + 334)), (1, .ref x), (0, .ref b)] []) : V p l e room_1 s m args below meth cd Q 9 H lo kq nq 3302 [(5, .int (zI i)), (4, .ref (x + 340)), (3, .ref (x + 339)), (2, .ref (x + 334)), (1, .ref x), (0, .ref b)] [] := by
  obtain ⟨h_cm, h_co, h_bf, h_sv, h_hi, h_hf, h_dk, h_se, h_pg, h_sb, h_sa, h_pr, h_ln, h_la, h_mo, h_out, h_outD⟩ := hW
  have hP0 := hP
  obtain ⟨⟨hD, hDv, hDh⟩, ⟨hRM, hch, hcs⟩, ⟨⟨n0, n1⟩, ⟨s0, s1⟩, hhs⟩, ⟨hm8, hnn, hAg, hNN, hnN, hf9⟩, ⟨T, hSB, hLT, hn38⟩, hPB, ⟨her, hfa, hss, ger, gfa, gss, gms⟩, ⟨gpo, gsi⟩, ⟨hv1, hv2, hvv⟩⟩ := hP
  have hO := hD.inv.ok
  have hI := hD.inv.ts
  have hSt := hD.inv.st
  have hS := hD.inv.sn
  have hR := hRM.1.2
  have hG := gp_inv hD
  have hb0 := hO.b0
  have hbw := hO.bw
  have hbf : ¬ Fr [] s.heap.size b := fun z => z.elim (fun q => q.elim) (fun q => by omega)
  refine v_aload_n X dL_law_3302 3303 rfl 4 rfl ?_
  refine v_aload_n X dL_law_3303 3304 rfl 2 rfl ?_
  refine v_mwS X hM (w_X9_errorPosition l hl E x co hs er fa ss (x + 339) lg hO q0 (by omega) (by omega) (by omega)) kwL_errorPosition ksL_errorPosition kl_L_380 (As := [.ref x, .ref (x + 339)]) rfl rfl (rm_lawW rfl (by omega) (by omega)) dL_law_3304 3307 rfl (k' := kq + 1) (n' := nq + 6) rfl rfl (fsI (fun q q1 q2 => (Or.inr (by omega)))) ⟨h_cm, h_co, h_out⟩ (fun rv H1 lo1 hM hF hpo => ?_)
  obtain ⟨rfl, hw_0⟩ := hpo
  have h_out : PR E (x + 339) [(x + 339, .inl (E 102 4, 1, .inr (.inl (fun _ => zL er))))] H1 := hw_0
  replace hzl := Nat.le_trans hzl hF.1
  replace h_cm := h_cm.kept hF 1 rfl (fsd (by omega))
  replace h_co := h_co.kept hF 28 rfl (fsd (by omega))
  replace h_bf := h_bf.kept hF 28 rfl (fsd (by omega))
  replace h_sv := h_sv.kept hF 28 rfl (fsd (by omega))
  replace h_hi := h_hi.kept hF 2 rfl (fsd (by omega))
  replace h_hf := h_hf.kept hF (fsd (by omega))
  replace h_dk := h_dk.kept hF 3 rfl (fsd (by omega))
  replace h_se := h_se.kept hF 5 rfl (fsd (by omega))
  replace h_pg := h_pg.kept hF 1 rfl (fsd (by omega))
  replace h_sb := h_sb.kept hF 1 rfl (fsd (by omega))
  replace h_sa := h_sa.kept hF 1 rfl (fsd (by omega))
  replace h_pr := h_pr.kept hF 10 rfl (fsd (by omega))
  replace h_ln := h_ln.kept hF 1 rfl (fsd (by omega))
  replace h_la := h_la.kept hF 1 rfl (fsd (by omega))
  replace h_mo := h_mo.kept hF 5 rfl (fsd (by omega))
  replace h_outD := h_outD.kept hF 1 rfl (fsd (by omega))
  show V p l e room_1 s m args below meth cd Q 9 H1 lo1 (kq + 1) (nq + 6) 3307 [(5, .int (zI i)), (4, .ref (x + 340)), (3, .ref (x + 339)), (2, .ref (x + 334)), (1, .ref x), (0, .ref b)] [.int (zI 0)]
  refine v_istore X dL_law_3307 3309 rfl (by decide) (L' := [(6, .int (zI 0)), (5, .int (zI i)), (4, .ref (x + 340)), (3, .ref (x + 339)), (2, .ref (x + 334)), (1, .ref x), (0, .ref b)]) rfl ?_
  refine v_aload_n X dL_law_3309 3310 rfl 4 rfl ?_
  refine v_muV X hM (h_mo.1) (c_X10_errorPosition l E (x + 334) mo er (by omega) (by omega) q0) kvX10_errorPosition kiX10_errorPosition kl_L_382 (q0 := 0) rfl rfl (As := []) rfl rfl (rm_law rfl (by omega) (by omega)) dL_law_3310 3313 rfl (k' := kq + 1) (n' := nq + 6) rfl rfl (fsI (fun q q1 q2 => (Or.inr (by omega)))) h_mo (fun rv H2 lo2 hM hF hpo => ?_)
  obtain ⟨rfl, hw_0⟩ := hpo
  have h_mo : PR E (x + 334) (modelW E (x + 334) (updC mo 0 (updZ (mo 0) 0 0))) H2 := hw_0
  replace hzl := Nat.le_trans hzl hF.1
  replace h_cm := h_cm.kept hF 1 rfl (fsd (by omega))
  replace h_co := h_co.kept hF 28 rfl (fsd (by omega))
  replace h_bf := h_bf.kept hF 28 rfl (fsd (by omega))
  replace h_sv := h_sv.kept hF 28 rfl (fsd (by omega))
  replace h_hi := h_hi.kept hF 2 rfl (fsd (by omega))
  replace h_hf := h_hf.kept hF (fsd (by omega))
  replace h_dk := h_dk.kept hF 3 rfl (fsd (by omega))
  replace h_se := h_se.kept hF 5 rfl (fsd (by omega))
  replace h_pg := h_pg.kept hF 1 rfl (fsd (by omega))
  replace h_sb := h_sb.kept hF 1 rfl (fsd (by omega))
  replace h_sa := h_sa.kept hF 1 rfl (fsd (by omega))
  replace h_pr := h_pr.kept hF 10 rfl (fsd (by omega))
  replace h_ln := h_ln.kept hF 1 rfl (fsd (by omega))
  replace h_la := h_la.kept hF 1 rfl (fsd (by omega))
  replace h_out := h_out.kept hF 1 rfl (fsd (by omega))
  replace h_outD := h_outD.kept hF 1 rfl (fsd (by omega))
  show V p l e room_1 s m args below meth cd Q 9 H2 lo2 (kq + 1) (nq + 6) 3313 [(6, .int (zI 0)), (5, .int (zI i)), (4, .ref (x + 340)), (3, .ref (x + 339)), (2, .ref (x + 334)), (1, .ref x), (0, .ref b)] [.int (zI er)]
  refine v_istore X dL_law_3313 3315 rfl (by decide) (L' := [(7, .int (zI er)), (6, .int (zI 0)), (5, .int (zI i)), (4, .ref (x + 340)), (3, .ref (x + 339)), (2, .ref (x + 334)), (1, .ref x), (0, .ref b)]) rfl ?_
  refine v_aload_n X dL_law_3315 3316 rfl 5 rfl ?_
  refine v_rdV X hM.C h_mo.1 (c_X10_thrown l E (x + 334) (updC mo 0 (updZ (mo 0) 0 0))) kvX10_thrown kiX10_thrown kl_L_196 rfl rfl (As := []) rfl rfl (rm_law0 rfl (by omega) (by omega)) dL_law_3316 3319 rfl ?_
  show V p l e room_1 s m args below meth cd Q 9 H2 lo2 (kq + 1) (nq + 6) 3319 [(7, .int (zI er)), (6, .int (zI 0)), (5, .int (zI i)), (4, .ref (x + 340)), (3, .ref (x + 339)), (2, .ref (x + 334)), (1, .ref x), (0, .ref b)] [.int (zI 0)]
  refine v_iload X dL_law_3319 3321 rfl 1 rfl ?_
  refine v_icmp_eq X (by omega) (by omega) dL_law_3321 3324 3326 rfl (by decide) (fun c_3 => ?_) (fun c_3 => ?_)
  · skip
    refine v_iload X dL_law_3326 3328 rfl 1 rfl ?_
    refine v_if_ne X (by omega) dL_law_3328 3331 3343 rfl (by decide) (fun c_4 => ?_) (fun c_4 => ?_)
    · skip
      exfalso; omega
    · skip
      refine v_aload_n X dL_law_3331 3332 rfl 4 rfl ?_
      refine v_iconst X dL_law_3332 3333 rfl ?_
      refine v_lald X hM.C h_out.1 0 rfl dL_law_3333 3334 rfl ?_
      show V p l e room_1 s m args below meth cd Q 9 H2 lo2 (kq + 1) (nq + 6) 3334 [(7, .int (zI er)), (6, .int (zI 0)), (5, .int (zI i)), (4, .ref (x + 340)), (3, .ref (x + 339)), (2, .ref (x + 334)), (1, .ref x), (0, .ref b)] [.long (zL er)]
      refine v_iload X dL_law_3334 3336 rfl 0 rfl ?_
      refine v_i2l X dL_law_3336 3337 rfl ?_
      refine v_lcmp0 X dL_law_3337 3338 rfl ?_
      refine v_if_eq X (by omega) dL_law_3338 3341 3343 rfl (by decide) (fun c_5 => ?_) (fun c_5 => ?_)
      · skip
        refine v_goto X dL_law_3343 3555 (by decide) ?_
        refine v_widen (k' := kq + 60) (n' := nq + 4000) (by omega) (by omega) ?_
        exact V_pick [2, 3, 4, 5, 6, 7] rfl (kk _ _ hM ⟨hzl, _, _, _, _, _, _, _, _, _, _, _, _, _, _, _, _, _, _, _, _, _, _, _, _, _, _, _, _, ⟨h_cm, h_co, h_bf, h_sv, h_hi, h_hf, h_dk, h_se, h_pg, h_sb, h_sa, h_pr, h_ln, h_la, h_mo, h_out, h_outD⟩, hP0.mo_0⟩)
      · skip
        exfalso; omega
  · skip
    exfalso; omega
set_option maxHeartbeats 4000000 in
set_option maxRecDepth 20000 in
theorem lo_errorPosition_1 (hl : l.stackTraces = false) (X : CF p m cd code 9 s args RL) (hX : va_X b Lx xs s s.heap) (hbl : b < s.heap.size) (hLx : Lx ≤ 2560) (hM : MS E [] s H lo) (hk : kq + 60 ≤ 603072) (hn : nq + 4000 ≤ 7211113) (hx : s.heap.size ≤ x) (hzl : x + 341 ≤ H.size) {v : Nat} {N : Nat} {f : Int → Int} {nn : Int} {v2 : Nat} {N2 : Nat} {f2 : Int → Int} {n2 : Int} {co : Nat → Int → Int} {bf : Nat → Int → Int} {cv : Nat → Int → Int} {hc : Nat → Nat → Int → Int} {nx : Int} {sz : Int} {hs : Int} {er : Int} {fa : Int} {ss : Int} {dk : Nat → Int → Int} {se : Nat → Int → Int} {po : Int} {si : Int} {pr : Nat → Int → Int} {ml : Int} {ml2 : Int} {mo : Nat → Int → Int} {lg : Nat → Int64} {dg : Nat → UInt64} (hW : LawW E x v N f nn v2 N2 f2 n2 co bf cv hc nx sz hs er fa ss dk se po si pr ml ml2 mo lg dg H) (hP : LawP x v N f nn v2 N2 f2 n2 co cv hc nx sz hs er fa ss po si pr mo) (i0 : 0 ≤ i) (i1 : i + 5 ≤ (Lx : Int)) (q0 : ¬ (¬ er = -1)) (kk : ∀ (H1 : Heap) (lo1 : List Loc), MS E [] s H1 lo1 → LawI E x H1 → V p l e room_1 s m args below meth cd Q 9 H1 lo1 (kq + 60) (nq + 4000) 3555 [(5, .int (zI i)), (4, .ref (x + 340)), (3, .ref (x + 339)), (2, .ref (x + 334)), (1, .ref x), (0, .ref b)] []) : V p l e room_1 s m args below meth cd Q 9 H lo kq nq 3302 [(5, .int (zI i)), (4, .ref (x + 340)), (3, .ref (x + 339)), (2, .ref (x + 334)), (1, .ref x), (0, .ref b)] [] := by
  obtain ⟨h_cm, h_co, h_bf, h_sv, h_hi, h_hf, h_dk, h_se, h_pg, h_sb, h_sa, h_pr, h_ln, h_la, h_mo, h_out, h_outD⟩ := hW
  have hP0 := hP
  obtain ⟨⟨hD, hDv, hDh⟩, ⟨hRM, hch, hcs⟩, ⟨⟨n0, n1⟩, ⟨s0, s1⟩, hhs⟩, ⟨hm8, hnn, hAg, hNN, hnN, hf9⟩, ⟨T, hSB, hLT, hn38⟩, hPB, ⟨her, hfa, hss, ger, gfa, gss, gms⟩, ⟨gpo, gsi⟩, ⟨hv1, hv2, hvv⟩⟩ := hP
  have hO := hD.inv.ok
  have hI := hD.inv.ts
  have hSt := hD.inv.st
  have hS := hD.inv.sn
  have hR := hRM.1.2
  have hG := gp_inv hD
  have hb0 := hO.b0
  have hbw := hO.bw
  have hbf : ¬ Fr [] s.heap.size b := fun z => z.elim (fun q => q.elim) (fun q => by omega)
  refine v_aload_n X dL_law_3302 3303 rfl 4 rfl ?_
  refine v_aload_n X dL_law_3303 3304 rfl 2 rfl ?_
  refine v_mwS X hM (w_X9_errorPosition_0_t l hl E x co hs er fa ss (x + 339) lg hO q0 (by omega)) kwL_errorPosition ksL_errorPosition kl_L_380 (As := [.ref x, .ref (x + 339)]) rfl rfl (rm_lawW rfl (by omega) (by omega)) dL_law_3304 3307 rfl (k' := kq + 1) (n' := nq + 6) rfl rfl (fun q hq => hq.elim) ⟨h_cm, h_co, h_out⟩ (fun rv H1 lo1 hM hF hpo => ?_)
  subst hpo
  replace hzl := Nat.le_trans hzl hF.1
  replace h_cm := h_cm.kept hF 1 rfl (fun q _ _ h => h.elim)
  replace h_co := h_co.kept hF 28 rfl (fun q _ _ h => h.elim)
  replace h_bf := h_bf.kept hF 28 rfl (fun q _ _ h => h.elim)
  replace h_sv := h_sv.kept hF 28 rfl (fun q _ _ h => h.elim)
  replace h_hi := h_hi.kept hF 2 rfl (fun q _ _ h => h.elim)
  replace h_hf := h_hf.kept hF (fun q _ _ h => h.elim)
  replace h_dk := h_dk.kept hF 3 rfl (fun q _ _ h => h.elim)
  replace h_se := h_se.kept hF 5 rfl (fun q _ _ h => h.elim)
  replace h_pg := h_pg.kept hF 1 rfl (fun q _ _ h => h.elim)
  replace h_sb := h_sb.kept hF 1 rfl (fun q _ _ h => h.elim)
  replace h_sa := h_sa.kept hF 1 rfl (fun q _ _ h => h.elim)
  replace h_pr := h_pr.kept hF 10 rfl (fun q _ _ h => h.elim)
  replace h_ln := h_ln.kept hF 1 rfl (fun q _ _ h => h.elim)
  replace h_la := h_la.kept hF 1 rfl (fun q _ _ h => h.elim)
  replace h_mo := h_mo.kept hF 5 rfl (fun q _ _ h => h.elim)
  replace h_out := h_out.kept hF 1 rfl (fun q _ _ h => h.elim)
  replace h_outD := h_outD.kept hF 1 rfl (fun q _ _ h => h.elim)
  show V p l e room_1 s m args below meth cd Q 9 H1 lo1 (kq + 1) (nq + 6) 3307 [(5, .int (zI i)), (4, .ref (x + 340)), (3, .ref (x + 339)), (2, .ref (x + 334)), (1, .ref x), (0, .ref b)] [.int (zI 1)]
  refine v_istore X dL_law_3307 3309 rfl (by decide) (L' := [(6, .int (zI 1)), (5, .int (zI i)), (4, .ref (x + 340)), (3, .ref (x + 339)), (2, .ref (x + 334)), (1, .ref x), (0, .ref b)]) rfl ?_
  refine v_aload_n X dL_law_3309 3310 rfl 4 rfl ?_
  refine v_muV X hM (h_mo.1) (c_X10_errorPosition_0 l E (x + 334) mo er (by omega) (by omega) q0) kvX10_errorPosition kiX10_errorPosition kl_L_382 (q0 := 0) rfl rfl (As := []) rfl rfl (rm_law rfl (by omega) (by omega)) dL_law_3310 3313 rfl (k' := kq + 1) (n' := nq + 6) rfl rfl (fsI (fun q q1 q2 => (Or.inr (by omega)))) h_mo (fun rv H2 lo2 hM hF hpo => ?_)
  obtain ⟨rfl, hw_0⟩ := hpo
  have h_mo : PR E (x + 334) (modelW E (x + 334) (updC mo 0 (updZ (mo 0) 0 1))) H2 := hw_0
  replace hzl := Nat.le_trans hzl hF.1
  replace h_cm := h_cm.kept hF 1 rfl (fsd (by omega))
  replace h_co := h_co.kept hF 28 rfl (fsd (by omega))
  replace h_bf := h_bf.kept hF 28 rfl (fsd (by omega))
  replace h_sv := h_sv.kept hF 28 rfl (fsd (by omega))
  replace h_hi := h_hi.kept hF 2 rfl (fsd (by omega))
  replace h_hf := h_hf.kept hF (fsd (by omega))
  replace h_dk := h_dk.kept hF 3 rfl (fsd (by omega))
  replace h_se := h_se.kept hF 5 rfl (fsd (by omega))
  replace h_pg := h_pg.kept hF 1 rfl (fsd (by omega))
  replace h_sb := h_sb.kept hF 1 rfl (fsd (by omega))
  replace h_sa := h_sa.kept hF 1 rfl (fsd (by omega))
  replace h_pr := h_pr.kept hF 10 rfl (fsd (by omega))
  replace h_ln := h_ln.kept hF 1 rfl (fsd (by omega))
  replace h_la := h_la.kept hF 1 rfl (fsd (by omega))
  replace h_out := h_out.kept hF 1 rfl (fsd (by omega))
  replace h_outD := h_outD.kept hF 1 rfl (fsd (by omega))
  show V p l e room_1 s m args below meth cd Q 9 H2 lo2 (kq + 1) (nq + 6) 3313 [(6, .int (zI 1)), (5, .int (zI i)), (4, .ref (x + 340)), (3, .ref (x + 339)), (2, .ref (x + 334)), (1, .ref x), (0, .ref b)] [.int (zI 0)]
  refine v_istore X dL_law_3313 3315 rfl (by decide) (L' := [(7, .int (zI 0)), (6, .int (zI 1)), (5, .int (zI i)), (4, .ref (x + 340)), (3, .ref (x + 339)), (2, .ref (x + 334)), (1, .ref x), (0, .ref b)]) rfl ?_
  refine v_aload_n X dL_law_3315 3316 rfl 5 rfl ?_
  refine v_rdV X hM.C h_mo.1 (c_X10_thrown l E (x + 334) (updC mo 0 (updZ (mo 0) 0 1))) kvX10_thrown kiX10_thrown kl_L_196 rfl rfl (As := []) rfl rfl (rm_law0 rfl (by omega) (by omega)) dL_law_3316 3319 rfl ?_
  show V p l e room_1 s m args below meth cd Q 9 H2 lo2 (kq + 1) (nq + 6) 3319 [(7, .int (zI 0)), (6, .int (zI 1)), (5, .int (zI i)), (4, .ref (x + 340)), (3, .ref (x + 339)), (2, .ref (x + 334)), (1, .ref x), (0, .ref b)] [.int (zI 1)]
  refine v_iload X dL_law_3319 3321 rfl 1 rfl ?_
  refine v_icmp_eq X (by omega) (by omega) dL_law_3321 3324 3326 rfl (by decide) (fun c_3 => ?_) (fun c_3 => ?_)
  · skip
    refine v_iload X dL_law_3326 3328 rfl 1 rfl ?_
    refine v_if_ne X (by omega) dL_law_3328 3331 3343 rfl (by decide) (fun c_4 => ?_) (fun c_4 => ?_)
    · skip
      refine v_goto X dL_law_3343 3555 (by decide) ?_
      refine v_widen (k' := kq + 60) (n' := nq + 4000) (by omega) (by omega) ?_
      exact V_pick [2, 3, 4, 5, 6, 7] rfl (kk _ _ hM ⟨hzl, _, _, _, _, _, _, _, _, _, _, _, _, _, _, _, _, _, _, _, _, _, _, _, _, _, _, _, _, ⟨h_cm, h_co, h_bf, h_sv, h_hi, h_hf, h_dk, h_se, h_pg, h_sb, h_sa, h_pr, h_ln, h_la, h_mo, h_out, h_outD⟩, hP0.mo_0⟩)
    · skip
      exfalso; omega
  · skip
    exfalso; omega
set_option maxHeartbeats 4000000 in
set_option maxRecDepth 20000 in
theorem lo_failedCommand (hl : l.stackTraces = false) (X : CF p m cd code 9 s args RL) (hX : va_X b Lx xs s s.heap) (hbl : b < s.heap.size) (hLx : Lx ≤ 2560) (hM : MS E [] s H lo) (hk : kq + 60 ≤ 603072) (hn : nq + 4000 ≤ 7211113) (hx : s.heap.size ≤ x) (hzl : x + 341 ≤ H.size) {v : Nat} {N : Nat} {f : Int → Int} {nn : Int} {v2 : Nat} {N2 : Nat} {f2 : Int → Int} {n2 : Int} {co : Nat → Int → Int} {bf : Nat → Int → Int} {cv : Nat → Int → Int} {hc : Nat → Nat → Int → Int} {nx : Int} {sz : Int} {hs : Int} {er : Int} {fa : Int} {ss : Int} {dk : Nat → Int → Int} {se : Nat → Int → Int} {po : Int} {si : Int} {pr : Nat → Int → Int} {ml : Int} {ml2 : Int} {mo : Nat → Int → Int} {lg : Nat → Int64} {dg : Nat → UInt64} (hW : LawW E x v N f nn v2 N2 f2 n2 co bf cv hc nx sz hs er fa ss dk se po si pr ml ml2 mo lg dg H) (hP : LawP x v N f nn v2 N2 f2 n2 co cv hc nx sz hs er fa ss po si pr mo) (i0 : 0 ≤ i) (i1 : i + 5 ≤ (Lx : Int)) (q0 : ¬ fa = -1) (kk : ∀ (H1 : Heap) (lo1 : List Loc), MS E [] s H1 lo1 → LawI E x H1 → V p l e room_1 s m args below meth cd Q 9 H1 lo1 (kq + 60) (nq + 4000) 3555 [(5, .int (zI i)), (4, .ref (x + 340)), (3, .ref (x + 339)), (2, .ref (x + 334)), (1, .ref x), (0, .ref b)] []) : V p l e room_1 s m args below meth cd Q 9 H lo kq nq 3346 [(5, .int (zI i)), (4, .ref (x + 340)), (3, .ref (x + 339)), (2, .ref (x + 334)), (1, .ref x), (0, .ref b)] [] := by
  obtain ⟨h_cm, h_co, h_bf, h_sv, h_hi, h_hf, h_dk, h_se, h_pg, h_sb, h_sa, h_pr, h_ln, h_la, h_mo, h_out, h_outD⟩ := hW
  have hP0 := hP
  obtain ⟨⟨hD, hDv, hDh⟩, ⟨hRM, hch, hcs⟩, ⟨⟨n0, n1⟩, ⟨s0, s1⟩, hhs⟩, ⟨hm8, hnn, hAg, hNN, hnN, hf9⟩, ⟨T, hSB, hLT, hn38⟩, hPB, ⟨her, hfa, hss, ger, gfa, gss, gms⟩, ⟨gpo, gsi⟩, ⟨hv1, hv2, hvv⟩⟩ := hP
  have hO := hD.inv.ok
  have hI := hD.inv.ts
  have hSt := hD.inv.st
  have hS := hD.inv.sn
  have hR := hRM.1.2
  have hG := gp_inv hD
  have hb0 := hO.b0
  have hbw := hO.bw
  have hbf : ¬ Fr [] s.heap.size b := fun z => z.elim (fun q => q.elim) (fun q => by omega)
  refine v_aload_n X dL_law_3346 3347 rfl 4 rfl ?_
  refine v_aload_n X dL_law_3347 3348 rfl 2 rfl ?_
  refine v_mwS X hM (w_X9_failedCommand l hl E x co hs er fa ss (x + 339) lg hO q0 (by omega) (by omega) (by omega)) kwL_failedCommand ksL_failedCommand kl_L_383 (As := [.ref x, .ref (x + 339)]) rfl rfl (rm_lawW rfl (by omega) (by omega)) dL_law_3348 3351 rfl (k' := kq + 1) (n' := nq + 6) rfl rfl (fsI (fun q q1 q2 => (Or.inr (by omega)))) ⟨h_cm, h_co, h_out⟩ (fun rv H1 lo1 hM hF hpo => ?_)
  obtain ⟨rfl, hw_0⟩ := hpo
  have h_out : PR E (x + 339) [(x + 339, .inl (E 102 4, 1, .inr (.inl (fun _ => zL fa))))] H1 := hw_0
  replace hzl := Nat.le_trans hzl hF.1
  replace h_cm := h_cm.kept hF 1 rfl (fsd (by omega))
  replace h_co := h_co.kept hF 28 rfl (fsd (by omega))
  replace h_bf := h_bf.kept hF 28 rfl (fsd (by omega))
  replace h_sv := h_sv.kept hF 28 rfl (fsd (by omega))
  replace h_hi := h_hi.kept hF 2 rfl (fsd (by omega))
  replace h_hf := h_hf.kept hF (fsd (by omega))
  replace h_dk := h_dk.kept hF 3 rfl (fsd (by omega))
  replace h_se := h_se.kept hF 5 rfl (fsd (by omega))
  replace h_pg := h_pg.kept hF 1 rfl (fsd (by omega))
  replace h_sb := h_sb.kept hF 1 rfl (fsd (by omega))
  replace h_sa := h_sa.kept hF 1 rfl (fsd (by omega))
  replace h_pr := h_pr.kept hF 10 rfl (fsd (by omega))
  replace h_ln := h_ln.kept hF 1 rfl (fsd (by omega))
  replace h_la := h_la.kept hF 1 rfl (fsd (by omega))
  replace h_mo := h_mo.kept hF 5 rfl (fsd (by omega))
  replace h_outD := h_outD.kept hF 1 rfl (fsd (by omega))
  show V p l e room_1 s m args below meth cd Q 9 H1 lo1 (kq + 1) (nq + 6) 3351 [(5, .int (zI i)), (4, .ref (x + 340)), (3, .ref (x + 339)), (2, .ref (x + 334)), (1, .ref x), (0, .ref b)] [.int (zI 0)]
  refine v_istore X dL_law_3351 3353 rfl (by decide) (L' := [(6, .int (zI 0)), (5, .int (zI i)), (4, .ref (x + 340)), (3, .ref (x + 339)), (2, .ref (x + 334)), (1, .ref x), (0, .ref b)]) rfl ?_
  refine v_aload_n X dL_law_3353 3354 rfl 4 rfl ?_
  refine v_muV X hM (h_mo.1) (c_X10_failedCommand l E (x + 334) mo fa (by omega) (by omega) q0) kvX10_failedCommand kiX10_failedCommand kl_L_385 (q0 := 0) rfl rfl (As := []) rfl rfl (rm_law rfl (by omega) (by omega)) dL_law_3354 3357 rfl (k' := kq + 1) (n' := nq + 6) rfl rfl (fsI (fun q q1 q2 => (Or.inr (by omega)))) h_mo (fun rv H2 lo2 hM hF hpo => ?_)
  obtain ⟨rfl, hw_0⟩ := hpo
  have h_mo : PR E (x + 334) (modelW E (x + 334) (updC mo 0 (updZ (mo 0) 0 0))) H2 := hw_0
  replace hzl := Nat.le_trans hzl hF.1
  replace h_cm := h_cm.kept hF 1 rfl (fsd (by omega))
  replace h_co := h_co.kept hF 28 rfl (fsd (by omega))
  replace h_bf := h_bf.kept hF 28 rfl (fsd (by omega))
  replace h_sv := h_sv.kept hF 28 rfl (fsd (by omega))
  replace h_hi := h_hi.kept hF 2 rfl (fsd (by omega))
  replace h_hf := h_hf.kept hF (fsd (by omega))
  replace h_dk := h_dk.kept hF 3 rfl (fsd (by omega))
  replace h_se := h_se.kept hF 5 rfl (fsd (by omega))
  replace h_pg := h_pg.kept hF 1 rfl (fsd (by omega))
  replace h_sb := h_sb.kept hF 1 rfl (fsd (by omega))
  replace h_sa := h_sa.kept hF 1 rfl (fsd (by omega))
  replace h_pr := h_pr.kept hF 10 rfl (fsd (by omega))
  replace h_ln := h_ln.kept hF 1 rfl (fsd (by omega))
  replace h_la := h_la.kept hF 1 rfl (fsd (by omega))
  replace h_out := h_out.kept hF 1 rfl (fsd (by omega))
  replace h_outD := h_outD.kept hF 1 rfl (fsd (by omega))
  show V p l e room_1 s m args below meth cd Q 9 H2 lo2 (kq + 1) (nq + 6) 3357 [(6, .int (zI 0)), (5, .int (zI i)), (4, .ref (x + 340)), (3, .ref (x + 339)), (2, .ref (x + 334)), (1, .ref x), (0, .ref b)] [.int (zI fa)]
  refine v_istore X dL_law_3357 3359 rfl (by decide) (L' := [(7, .int (zI fa)), (6, .int (zI 0)), (5, .int (zI i)), (4, .ref (x + 340)), (3, .ref (x + 339)), (2, .ref (x + 334)), (1, .ref x), (0, .ref b)]) rfl ?_
  refine v_aload_n X dL_law_3359 3360 rfl 5 rfl ?_
  refine v_rdV X hM.C h_mo.1 (c_X10_thrown l E (x + 334) (updC mo 0 (updZ (mo 0) 0 0))) kvX10_thrown kiX10_thrown kl_L_196 rfl rfl (As := []) rfl rfl (rm_law0 rfl (by omega) (by omega)) dL_law_3360 3363 rfl ?_
  show V p l e room_1 s m args below meth cd Q 9 H2 lo2 (kq + 1) (nq + 6) 3363 [(7, .int (zI fa)), (6, .int (zI 0)), (5, .int (zI i)), (4, .ref (x + 340)), (3, .ref (x + 339)), (2, .ref (x + 334)), (1, .ref x), (0, .ref b)] [.int (zI 0)]
  refine v_iload X dL_law_3363 3365 rfl 1 rfl ?_
  refine v_icmp_eq X (by omega) (by omega) dL_law_3365 3368 3370 rfl (by decide) (fun c_3 => ?_) (fun c_3 => ?_)
  · skip
    refine v_iload X dL_law_3370 3372 rfl 1 rfl ?_
    refine v_if_ne X (by omega) dL_law_3372 3375 3387 rfl (by decide) (fun c_4 => ?_) (fun c_4 => ?_)
    · skip
      exfalso; omega
    · skip
      refine v_aload_n X dL_law_3375 3376 rfl 4 rfl ?_
      refine v_iconst X dL_law_3376 3377 rfl ?_
      refine v_lald X hM.C h_out.1 0 rfl dL_law_3377 3378 rfl ?_
      show V p l e room_1 s m args below meth cd Q 9 H2 lo2 (kq + 1) (nq + 6) 3378 [(7, .int (zI fa)), (6, .int (zI 0)), (5, .int (zI i)), (4, .ref (x + 340)), (3, .ref (x + 339)), (2, .ref (x + 334)), (1, .ref x), (0, .ref b)] [.long (zL fa)]
      refine v_iload X dL_law_3378 3380 rfl 0 rfl ?_
      refine v_i2l X dL_law_3380 3381 rfl ?_
      refine v_lcmp0 X dL_law_3381 3382 rfl ?_
      refine v_if_eq X (by omega) dL_law_3382 3385 3387 rfl (by decide) (fun c_5 => ?_) (fun c_5 => ?_)
      · skip
        refine v_goto X dL_law_3387 3555 (by decide) ?_
        refine v_widen (k' := kq + 60) (n' := nq + 4000) (by omega) (by omega) ?_
        exact V_pick [2, 3, 4, 5, 6, 7] rfl (kk _ _ hM ⟨hzl, _, _, _, _, _, _, _, _, _, _, _, _, _, _, _, _, _, _, _, _, _, _, _, _, _, _, _, _, ⟨h_cm, h_co, h_bf, h_sv, h_hi, h_hf, h_dk, h_se, h_pg, h_sb, h_sa, h_pr, h_ln, h_la, h_mo, h_out, h_outD⟩, hP0.mo_0⟩)
      · skip
        exfalso; omega
  · skip
    exfalso; omega
set_option maxHeartbeats 4000000 in
set_option maxRecDepth 20000 in
theorem lo_failedCommand_1 (hl : l.stackTraces = false) (X : CF p m cd code 9 s args RL) (hX : va_X b Lx xs s s.heap) (hbl : b < s.heap.size) (hLx : Lx ≤ 2560) (hM : MS E [] s H lo) (hk : kq + 60 ≤ 603072) (hn : nq + 4000 ≤ 7211113) (hx : s.heap.size ≤ x) (hzl : x + 341 ≤ H.size) {v : Nat} {N : Nat} {f : Int → Int} {nn : Int} {v2 : Nat} {N2 : Nat} {f2 : Int → Int} {n2 : Int} {co : Nat → Int → Int} {bf : Nat → Int → Int} {cv : Nat → Int → Int} {hc : Nat → Nat → Int → Int} {nx : Int} {sz : Int} {hs : Int} {er : Int} {fa : Int} {ss : Int} {dk : Nat → Int → Int} {se : Nat → Int → Int} {po : Int} {si : Int} {pr : Nat → Int → Int} {ml : Int} {ml2 : Int} {mo : Nat → Int → Int} {lg : Nat → Int64} {dg : Nat → UInt64} (hW : LawW E x v N f nn v2 N2 f2 n2 co bf cv hc nx sz hs er fa ss dk se po si pr ml ml2 mo lg dg H) (hP : LawP x v N f nn v2 N2 f2 n2 co cv hc nx sz hs er fa ss po si pr mo) (i0 : 0 ≤ i) (i1 : i + 5 ≤ (Lx : Int)) (q0 : ¬ (¬ fa = -1)) (kk : ∀ (H1 : Heap) (lo1 : List Loc), MS E [] s H1 lo1 → LawI E x H1 → V p l e room_1 s m args below meth cd Q 9 H1 lo1 (kq + 60) (nq + 4000) 3555 [(5, .int (zI i)), (4, .ref (x + 340)), (3, .ref (x + 339)), (2, .ref (x + 334)), (1, .ref x), (0, .ref b)] []) : V p l e room_1 s m args below meth cd Q 9 H lo kq nq 3346 [(5, .int (zI i)), (4, .ref (x + 340)), (3, .ref (x + 339)), (2, .ref (x + 334)), (1, .ref x), (0, .ref b)] [] := by
  obtain ⟨h_cm, h_co, h_bf, h_sv, h_hi, h_hf, h_dk, h_se, h_pg, h_sb, h_sa, h_pr, h_ln, h_la, h_mo, h_out, h_outD⟩ := hW
  have hP0 := hP
  obtain ⟨⟨hD, hDv, hDh⟩, ⟨hRM, hch, hcs⟩, ⟨⟨n0, n1⟩, ⟨s0, s1⟩, hhs⟩, ⟨hm8, hnn, hAg, hNN, hnN, hf9⟩, ⟨T, hSB, hLT, hn38⟩, hPB, ⟨her, hfa, hss, ger, gfa, gss, gms⟩, ⟨gpo, gsi⟩, ⟨hv1, hv2, hvv⟩⟩ := hP
  have hO := hD.inv.ok
  have hI := hD.inv.ts
  have hSt := hD.inv.st
  have hS := hD.inv.sn
  have hR := hRM.1.2
  have hG := gp_inv hD
  have hb0 := hO.b0
  have hbw := hO.bw
  have hbf : ¬ Fr [] s.heap.size b := fun z => z.elim (fun q => q.elim) (fun q => by omega)
  refine v_aload_n X dL_law_3346 3347 rfl 4 rfl ?_
  refine v_aload_n X dL_law_3347 3348 rfl 2 rfl ?_
  refine v_mwS X hM (w_X9_failedCommand_0_t l hl E x co hs er fa ss (x + 339) lg hO q0 (by omega)) kwL_failedCommand ksL_failedCommand kl_L_383 (As := [.ref x, .ref (x + 339)]) rfl rfl (rm_lawW rfl (by omega) (by omega)) dL_law_3348 3351 rfl (k' := kq + 1) (n' := nq + 6) rfl rfl (fun q hq => hq.elim) ⟨h_cm, h_co, h_out⟩ (fun rv H1 lo1 hM hF hpo => ?_)
  subst hpo
  replace hzl := Nat.le_trans hzl hF.1
  replace h_cm := h_cm.kept hF 1 rfl (fun q _ _ h => h.elim)
  replace h_co := h_co.kept hF 28 rfl (fun q _ _ h => h.elim)
  replace h_bf := h_bf.kept hF 28 rfl (fun q _ _ h => h.elim)
  replace h_sv := h_sv.kept hF 28 rfl (fun q _ _ h => h.elim)
  replace h_hi := h_hi.kept hF 2 rfl (fun q _ _ h => h.elim)
  replace h_hf := h_hf.kept hF (fun q _ _ h => h.elim)
  replace h_dk := h_dk.kept hF 3 rfl (fun q _ _ h => h.elim)
  replace h_se := h_se.kept hF 5 rfl (fun q _ _ h => h.elim)
  replace h_pg := h_pg.kept hF 1 rfl (fun q _ _ h => h.elim)
  replace h_sb := h_sb.kept hF 1 rfl (fun q _ _ h => h.elim)
  replace h_sa := h_sa.kept hF 1 rfl (fun q _ _ h => h.elim)
  replace h_pr := h_pr.kept hF 10 rfl (fun q _ _ h => h.elim)
  replace h_ln := h_ln.kept hF 1 rfl (fun q _ _ h => h.elim)
  replace h_la := h_la.kept hF 1 rfl (fun q _ _ h => h.elim)
  replace h_mo := h_mo.kept hF 5 rfl (fun q _ _ h => h.elim)
  replace h_out := h_out.kept hF 1 rfl (fun q _ _ h => h.elim)
  replace h_outD := h_outD.kept hF 1 rfl (fun q _ _ h => h.elim)
  show V p l e room_1 s m args below meth cd Q 9 H1 lo1 (kq + 1) (nq + 6) 3351 [(5, .int (zI i)), (4, .ref (x + 340)), (3, .ref (x + 339)), (2, .ref (x + 334)), (1, .ref x), (0, .ref b)] [.int (zI 1)]
  refine v_istore X dL_law_3351 3353 rfl (by decide) (L' := [(6, .int (zI 1)), (5, .int (zI i)), (4, .ref (x + 340)), (3, .ref (x + 339)), (2, .ref (x + 334)), (1, .ref x), (0, .ref b)]) rfl ?_
  refine v_aload_n X dL_law_3353 3354 rfl 4 rfl ?_
  refine v_muV X hM (h_mo.1) (c_X10_failedCommand_0 l E (x + 334) mo fa (by omega) (by omega) q0) kvX10_failedCommand kiX10_failedCommand kl_L_385 (q0 := 0) rfl rfl (As := []) rfl rfl (rm_law rfl (by omega) (by omega)) dL_law_3354 3357 rfl (k' := kq + 1) (n' := nq + 6) rfl rfl (fsI (fun q q1 q2 => (Or.inr (by omega)))) h_mo (fun rv H2 lo2 hM hF hpo => ?_)
  obtain ⟨rfl, hw_0⟩ := hpo
  have h_mo : PR E (x + 334) (modelW E (x + 334) (updC mo 0 (updZ (mo 0) 0 1))) H2 := hw_0
  replace hzl := Nat.le_trans hzl hF.1
  replace h_cm := h_cm.kept hF 1 rfl (fsd (by omega))
  replace h_co := h_co.kept hF 28 rfl (fsd (by omega))
  replace h_bf := h_bf.kept hF 28 rfl (fsd (by omega))
  replace h_sv := h_sv.kept hF 28 rfl (fsd (by omega))
  replace h_hi := h_hi.kept hF 2 rfl (fsd (by omega))
  replace h_hf := h_hf.kept hF (fsd (by omega))
  replace h_dk := h_dk.kept hF 3 rfl (fsd (by omega))
  replace h_se := h_se.kept hF 5 rfl (fsd (by omega))
  replace h_pg := h_pg.kept hF 1 rfl (fsd (by omega))
  replace h_sb := h_sb.kept hF 1 rfl (fsd (by omega))
  replace h_sa := h_sa.kept hF 1 rfl (fsd (by omega))
  replace h_pr := h_pr.kept hF 10 rfl (fsd (by omega))
  replace h_ln := h_ln.kept hF 1 rfl (fsd (by omega))
  replace h_la := h_la.kept hF 1 rfl (fsd (by omega))
  replace h_out := h_out.kept hF 1 rfl (fsd (by omega))
  replace h_outD := h_outD.kept hF 1 rfl (fsd (by omega))
  show V p l e room_1 s m args below meth cd Q 9 H2 lo2 (kq + 1) (nq + 6) 3357 [(6, .int (zI 1)), (5, .int (zI i)), (4, .ref (x + 340)), (3, .ref (x + 339)), (2, .ref (x + 334)), (1, .ref x), (0, .ref b)] [.int (zI 0)]
  refine v_istore X dL_law_3357 3359 rfl (by decide) (L' := [(7, .int (zI 0)), (6, .int (zI 1)), (5, .int (zI i)), (4, .ref (x + 340)), (3, .ref (x + 339)), (2, .ref (x + 334)), (1, .ref x), (0, .ref b)]) rfl ?_
  refine v_aload_n X dL_law_3359 3360 rfl 5 rfl ?_
  refine v_rdV X hM.C h_mo.1 (c_X10_thrown l E (x + 334) (updC mo 0 (updZ (mo 0) 0 1))) kvX10_thrown kiX10_thrown kl_L_196 rfl rfl (As := []) rfl rfl (rm_law0 rfl (by omega) (by omega)) dL_law_3360 3363 rfl ?_
  show V p l e room_1 s m args below meth cd Q 9 H2 lo2 (kq + 1) (nq + 6) 3363 [(7, .int (zI 0)), (6, .int (zI 1)), (5, .int (zI i)), (4, .ref (x + 340)), (3, .ref (x + 339)), (2, .ref (x + 334)), (1, .ref x), (0, .ref b)] [.int (zI 1)]
  refine v_iload X dL_law_3363 3365 rfl 1 rfl ?_
  refine v_icmp_eq X (by omega) (by omega) dL_law_3365 3368 3370 rfl (by decide) (fun c_3 => ?_) (fun c_3 => ?_)
  · skip
    refine v_iload X dL_law_3370 3372 rfl 1 rfl ?_
    refine v_if_ne X (by omega) dL_law_3372 3375 3387 rfl (by decide) (fun c_4 => ?_) (fun c_4 => ?_)
    · skip
      refine v_goto X dL_law_3387 3555 (by decide) ?_
      refine v_widen (k' := kq + 60) (n' := nq + 4000) (by omega) (by omega) ?_
      exact V_pick [2, 3, 4, 5, 6, 7] rfl (kk _ _ hM ⟨hzl, _, _, _, _, _, _, _, _, _, _, _, _, _, _, _, _, _, _, _, _, _, _, _, _, _, _, _, _, ⟨h_cm, h_co, h_bf, h_sv, h_hi, h_hf, h_dk, h_se, h_pg, h_sb, h_sa, h_pr, h_ln, h_la, h_mo, h_out, h_outD⟩, hP0.mo_0⟩)
    · skip
      exfalso; omega
  · skip
    exfalso; omega
set_option maxHeartbeats 4000000 in
set_option maxRecDepth 20000 in
theorem lo_isFailureOfState (hl : l.stackTraces = false) (X : CF p m cd code 9 s args RL) (hX : va_X b Lx xs s s.heap) (hbl : b < s.heap.size) (hLx : Lx ≤ 2560) (hM : MS E [] s H lo) (hk : kq + 60 ≤ 603072) (hn : nq + 4000 ≤ 7211113) (hx : s.heap.size ≤ x) (hzl : x + 341 ≤ H.size) {v : Nat} {N : Nat} {f : Int → Int} {nn : Int} {v2 : Nat} {N2 : Nat} {f2 : Int → Int} {n2 : Int} {co : Nat → Int → Int} {bf : Nat → Int → Int} {cv : Nat → Int → Int} {hc : Nat → Nat → Int → Int} {nx : Int} {sz : Int} {hs : Int} {er : Int} {fa : Int} {ss : Int} {dk : Nat → Int → Int} {se : Nat → Int → Int} {po : Int} {si : Int} {pr : Nat → Int → Int} {ml : Int} {ml2 : Int} {mo : Nat → Int → Int} {lg : Nat → Int64} {dg : Nat → UInt64} (hW : LawW E x v N f nn v2 N2 f2 n2 co bf cv hc nx sz hs er fa ss dk se po si pr ml ml2 mo lg dg H) (hP : LawP x v N f nn v2 N2 f2 n2 co cv hc nx sz hs er fa ss po si pr mo) (i0 : 0 ≤ i) (i1 : i + 5 ≤ (Lx : Int)) (q0 : ¬ fa = -1) (kk : ∀ (H1 : Heap) (lo1 : List Loc), MS E [] s H1 lo1 → LawI E x H1 → V p l e room_1 s m args below meth cd Q 9 H1 lo1 (kq + 60) (nq + 4000) 3555 [(5, .int (zI i)), (4, .ref (x + 340)), (3, .ref (x + 339)), (2, .ref (x + 334)), (1, .ref x), (0, .ref b)] []) : V p l e room_1 s m args below meth cd Q 9 H lo kq nq 3390 [(5, .int (zI i)), (4, .ref (x + 340)), (3, .ref (x + 339)), (2, .ref (x + 334)), (1, .ref x), (0, .ref b)] [] := by
  obtain ⟨h_cm, h_co, h_bf, h_sv, h_hi, h_hf, h_dk, h_se, h_pg, h_sb, h_sa, h_pr, h_ln, h_la, h_mo, h_out, h_outD⟩ := hW
  have hP0 := hP
  obtain ⟨⟨hD, hDv, hDh⟩, ⟨hRM, hch, hcs⟩, ⟨⟨n0, n1⟩, ⟨s0, s1⟩, hhs⟩, ⟨hm8, hnn, hAg, hNN, hnN, hf9⟩, ⟨T, hSB, hLT, hn38⟩, hPB, ⟨her, hfa, hss, ger, gfa, gss, gms⟩, ⟨gpo, gsi⟩, ⟨hv1, hv2, hvv⟩⟩ := hP
  have hO := hD.inv.ok
  have hI := hD.inv.ts
  have hSt := hD.inv.st
  have hS := hD.inv.sn
  have hR := hRM.1.2
  have hG := gp_inv hD
  have hb0 := hO.b0
  have hbw := hO.bw
  have hbf : ¬ Fr [] s.heap.size b := fun z => z.elim (fun q => q.elim) (fun q => by omega)
  refine v_aload_n X dL_law_3390 3391 rfl 4 rfl ?_
  refine v_aload_n X dL_law_3391 3392 rfl 2 rfl ?_
  refine v_mwS X hM (w_X9_isFailureOfState l hl E x co hs er fa ss (x + 339) lg hO q0 (by omega) (by omega) (by omega) (by omega)) kwL_isFailureOfState ksL_isFailureOfState kl_L_386 (As := [.ref x, .ref (x + 339)]) rfl rfl (rm_lawW rfl (by omega) (by omega)) dL_law_3392 3395 rfl (k' := kq + 1) (n' := nq + 6) rfl rfl (fsI (fun q q1 q2 => (Or.inr (by omega)))) ⟨h_cm, h_co, h_out⟩ (fun rv H1 lo1 hM hF hpo => ?_)
  obtain ⟨rfl, hw_0⟩ := hpo
  have h_out : PR E (x + 339) [(x + 339, .inl (E 102 4, 1, .inr (.inl (fun _ => zL (bz (ss = 1))))))] H1 := hw_0
  replace hzl := Nat.le_trans hzl hF.1
  replace h_cm := h_cm.kept hF 1 rfl (fsd (by omega))
  replace h_co := h_co.kept hF 28 rfl (fsd (by omega))
  replace h_bf := h_bf.kept hF 28 rfl (fsd (by omega))
  replace h_sv := h_sv.kept hF 28 rfl (fsd (by omega))
  replace h_hi := h_hi.kept hF 2 rfl (fsd (by omega))
  replace h_hf := h_hf.kept hF (fsd (by omega))
  replace h_dk := h_dk.kept hF 3 rfl (fsd (by omega))
  replace h_se := h_se.kept hF 5 rfl (fsd (by omega))
  replace h_pg := h_pg.kept hF 1 rfl (fsd (by omega))
  replace h_sb := h_sb.kept hF 1 rfl (fsd (by omega))
  replace h_sa := h_sa.kept hF 1 rfl (fsd (by omega))
  replace h_pr := h_pr.kept hF 10 rfl (fsd (by omega))
  replace h_ln := h_ln.kept hF 1 rfl (fsd (by omega))
  replace h_la := h_la.kept hF 1 rfl (fsd (by omega))
  replace h_mo := h_mo.kept hF 5 rfl (fsd (by omega))
  replace h_outD := h_outD.kept hF 1 rfl (fsd (by omega))
  show V p l e room_1 s m args below meth cd Q 9 H1 lo1 (kq + 1) (nq + 6) 3395 [(5, .int (zI i)), (4, .ref (x + 340)), (3, .ref (x + 339)), (2, .ref (x + 334)), (1, .ref x), (0, .ref b)] [.int (zI 0)]
  refine v_istore X dL_law_3395 3397 rfl (by decide) (L' := [(6, .int (zI 0)), (5, .int (zI i)), (4, .ref (x + 340)), (3, .ref (x + 339)), (2, .ref (x + 334)), (1, .ref x), (0, .ref b)]) rfl ?_
  refine v_aload_n X dL_law_3397 3398 rfl 4 rfl ?_
  refine v_muV X hM (h_mo.1) (c_X10_isFailureOfState l E (x + 334) mo fa ss (by omega) (by omega) (by omega) (by omega) (by omega) q0) kvX10_isFailureOfState kiX10_isFailureOfState kl_L_388 (q0 := 0) rfl rfl (As := []) rfl rfl (rm_law rfl (by omega) (by omega)) dL_law_3398 3401 rfl (k' := kq + 1) (n' := nq + 6) rfl rfl (fsI (fun q q1 q2 => (Or.inr (by omega)))) h_mo (fun rv H2 lo2 hM hF hpo => ?_)
  obtain ⟨rfl, hw_0⟩ := hpo
  have h_mo : PR E (x + 334) (modelW E (x + 334) (updC mo 0 (updZ (mo 0) 0 0))) H2 := hw_0
  replace hzl := Nat.le_trans hzl hF.1
  replace h_cm := h_cm.kept hF 1 rfl (fsd (by omega))
  replace h_co := h_co.kept hF 28 rfl (fsd (by omega))
  replace h_bf := h_bf.kept hF 28 rfl (fsd (by omega))
  replace h_sv := h_sv.kept hF 28 rfl (fsd (by omega))
  replace h_hi := h_hi.kept hF 2 rfl (fsd (by omega))
  replace h_hf := h_hf.kept hF (fsd (by omega))
  replace h_dk := h_dk.kept hF 3 rfl (fsd (by omega))
  replace h_se := h_se.kept hF 5 rfl (fsd (by omega))
  replace h_pg := h_pg.kept hF 1 rfl (fsd (by omega))
  replace h_sb := h_sb.kept hF 1 rfl (fsd (by omega))
  replace h_sa := h_sa.kept hF 1 rfl (fsd (by omega))
  replace h_pr := h_pr.kept hF 10 rfl (fsd (by omega))
  replace h_ln := h_ln.kept hF 1 rfl (fsd (by omega))
  replace h_la := h_la.kept hF 1 rfl (fsd (by omega))
  replace h_out := h_out.kept hF 1 rfl (fsd (by omega))
  replace h_outD := h_outD.kept hF 1 rfl (fsd (by omega))
  show V p l e room_1 s m args below meth cd Q 9 H2 lo2 (kq + 1) (nq + 6) 3401 [(6, .int (zI 0)), (5, .int (zI i)), (4, .ref (x + 340)), (3, .ref (x + 339)), (2, .ref (x + 334)), (1, .ref x), (0, .ref b)] [.int (zI (bz (ss = 1)))]
  refine v_istore X dL_law_3401 3403 rfl (by decide) (L' := [(7, .int (zI (bz (ss = 1)))), (6, .int (zI 0)), (5, .int (zI i)), (4, .ref (x + 340)), (3, .ref (x + 339)), (2, .ref (x + 334)), (1, .ref x), (0, .ref b)]) rfl ?_
  refine v_aload_n X dL_law_3403 3404 rfl 5 rfl ?_
  refine v_rdV X hM.C h_mo.1 (c_X10_thrown l E (x + 334) (updC mo 0 (updZ (mo 0) 0 0))) kvX10_thrown kiX10_thrown kl_L_196 rfl rfl (As := []) rfl rfl (rm_law0 rfl (by omega) (by omega)) dL_law_3404 3407 rfl ?_
  show V p l e room_1 s m args below meth cd Q 9 H2 lo2 (kq + 1) (nq + 6) 3407 [(7, .int (zI (bz (ss = 1)))), (6, .int (zI 0)), (5, .int (zI i)), (4, .ref (x + 340)), (3, .ref (x + 339)), (2, .ref (x + 334)), (1, .ref x), (0, .ref b)] [.int (zI 0)]
  refine v_iload X dL_law_3407 3409 rfl 1 rfl ?_
  refine v_icmp_eq X (by omega) (by omega) dL_law_3409 3412 3414 rfl (by decide) (fun c_3 => ?_) (fun c_3 => ?_)
  · skip
    refine v_iload X dL_law_3414 3416 rfl 1 rfl ?_
    refine v_if_ne X (by omega) dL_law_3416 3419 3438 rfl (by decide) (fun c_4 => ?_) (fun c_4 => ?_)
    · skip
      exfalso; omega
    · skip
      refine v_aload_n X dL_law_3419 3420 rfl 4 rfl ?_
      refine v_iconst X dL_law_3420 3421 rfl ?_
      refine v_lald X hM.C h_out.1 0 rfl dL_law_3421 3422 rfl ?_
      show V p l e room_1 s m args below meth cd Q 9 H2 lo2 (kq + 1) (nq + 6) 3422 [(7, .int (zI (bz (ss = 1)))), (6, .int (zI 0)), (5, .int (zI i)), (4, .ref (x + 340)), (3, .ref (x + 339)), (2, .ref (x + 334)), (1, .ref x), (0, .ref b)] [.long (zL (bz (ss = 1)))]
      refine v_iload X dL_law_3422 3424 rfl 0 rfl ?_
      refine v_bif_eq X dL_law_3424 3427 3431 rfl (by decide) (fun c_5 => ?_) (fun c_5 => ?_)
      · skip
        refine v_lconst 0 X dL_law_3431 rfl 3432 rfl ?_
        refine V_S (st' := [.long (zL 0), .long (zL 0)]) (by rw [show (bz (ss = 1) : Int) = 0 from bz_f (by first | assumption | omega)]) ?_
        refine v_lcmp0 X dL_law_3432 3433 rfl ?_
        refine v_if_eq X (by omega) dL_law_3433 3436 3438 rfl (by decide) (fun c_6 => ?_) (fun c_6 => ?_)
        · skip
          refine v_goto X dL_law_3438 3555 (by decide) ?_
          refine v_widen (k' := kq + 60) (n' := nq + 4000) (by omega) (by omega) ?_
          exact V_pick [2, 3, 4, 5, 6, 7] rfl (kk _ _ hM ⟨hzl, _, _, _, _, _, _, _, _, _, _, _, _, _, _, _, _, _, _, _, _, _, _, _, _, _, _, _, _, ⟨h_cm, h_co, h_bf, h_sv, h_hi, h_hf, h_dk, h_se, h_pg, h_sb, h_sa, h_pr, h_ln, h_la, h_mo, h_out, h_outD⟩, hP0.mo_0⟩)
        · skip
          exfalso; omega
      · skip
        refine v_lconst 1 X dL_law_3427 rfl 3428 rfl ?_
        refine v_goto X dL_law_3428 3432 (by decide) ?_
        refine V_S (st' := [.long (zL 1), .long (zL 1)]) (by rw [show (bz (ss = 1) : Int) = 1 from bz_t (by first | assumption | omega)]) ?_
        refine v_lcmp0 X dL_law_3432 3433 rfl ?_
        refine v_if_eq X (by omega) dL_law_3433 3436 3438 rfl (by decide) (fun c_7 => ?_) (fun c_7 => ?_)
        · skip
          refine v_goto X dL_law_3438 3555 (by decide) ?_
          refine v_widen (k' := kq + 60) (n' := nq + 4000) (by omega) (by omega) ?_
          exact V_pick [2, 3, 4, 5, 6, 7] rfl (kk _ _ hM ⟨hzl, _, _, _, _, _, _, _, _, _, _, _, _, _, _, _, _, _, _, _, _, _, _, _, _, _, _, _, _, ⟨h_cm, h_co, h_bf, h_sv, h_hi, h_hf, h_dk, h_se, h_pg, h_sb, h_sa, h_pr, h_ln, h_la, h_mo, h_out, h_outD⟩, hP0.mo_0⟩)
        · skip
          exfalso; omega
  · skip
    exfalso; omega
set_option maxHeartbeats 4000000 in
set_option maxRecDepth 20000 in
theorem lo_isFailureOfState_1 (hl : l.stackTraces = false) (X : CF p m cd code 9 s args RL) (hX : va_X b Lx xs s s.heap) (hbl : b < s.heap.size) (hLx : Lx ≤ 2560) (hM : MS E [] s H lo) (hk : kq + 60 ≤ 603072) (hn : nq + 4000 ≤ 7211113) (hx : s.heap.size ≤ x) (hzl : x + 341 ≤ H.size) {v : Nat} {N : Nat} {f : Int → Int} {nn : Int} {v2 : Nat} {N2 : Nat} {f2 : Int → Int} {n2 : Int} {co : Nat → Int → Int} {bf : Nat → Int → Int} {cv : Nat → Int → Int} {hc : Nat → Nat → Int → Int} {nx : Int} {sz : Int} {hs : Int} {er : Int} {fa : Int} {ss : Int} {dk : Nat → Int → Int} {se : Nat → Int → Int} {po : Int} {si : Int} {pr : Nat → Int → Int} {ml : Int} {ml2 : Int} {mo : Nat → Int → Int} {lg : Nat → Int64} {dg : Nat → UInt64} (hW : LawW E x v N f nn v2 N2 f2 n2 co bf cv hc nx sz hs er fa ss dk se po si pr ml ml2 mo lg dg H) (hP : LawP x v N f nn v2 N2 f2 n2 co cv hc nx sz hs er fa ss po si pr mo) (i0 : 0 ≤ i) (i1 : i + 5 ≤ (Lx : Int)) (q0 : ¬ (¬ fa = -1)) (kk : ∀ (H1 : Heap) (lo1 : List Loc), MS E [] s H1 lo1 → LawI E x H1 → V p l e room_1 s m args below meth cd Q 9 H1 lo1 (kq + 60) (nq + 4000) 3555 [(5, .int (zI i)), (4, .ref (x + 340)), (3, .ref (x + 339)), (2, .ref (x + 334)), (1, .ref x), (0, .ref b)] []) : V p l e room_1 s m args below meth cd Q 9 H lo kq nq 3390 [(5, .int (zI i)), (4, .ref (x + 340)), (3, .ref (x + 339)), (2, .ref (x + 334)), (1, .ref x), (0, .ref b)] [] := by
  obtain ⟨h_cm, h_co, h_bf, h_sv, h_hi, h_hf, h_dk, h_se, h_pg, h_sb, h_sa, h_pr, h_ln, h_la, h_mo, h_out, h_outD⟩ := hW
  have hP0 := hP
  obtain ⟨⟨hD, hDv, hDh⟩, ⟨hRM, hch, hcs⟩, ⟨⟨n0, n1⟩, ⟨s0, s1⟩, hhs⟩, ⟨hm8, hnn, hAg, hNN, hnN, hf9⟩, ⟨T, hSB, hLT, hn38⟩, hPB, ⟨her, hfa, hss, ger, gfa, gss, gms⟩, ⟨gpo, gsi⟩, ⟨hv1, hv2, hvv⟩⟩ := hP
  have hO := hD.inv.ok
  have hI := hD.inv.ts
  have hSt := hD.inv.st
  have hS := hD.inv.sn
  have hR := hRM.1.2
  have hG := gp_inv hD
  have hb0 := hO.b0
  have hbw := hO.bw
  have hbf : ¬ Fr [] s.heap.size b := fun z => z.elim (fun q => q.elim) (fun q => by omega)
  refine v_aload_n X dL_law_3390 3391 rfl 4 rfl ?_
  refine v_aload_n X dL_law_3391 3392 rfl 2 rfl ?_
  refine v_mwS X hM (w_X9_isFailureOfState_0_t l hl E x co hs er fa ss (x + 339) lg hO q0 (by omega) (by omega)) kwL_isFailureOfState ksL_isFailureOfState kl_L_386 (As := [.ref x, .ref (x + 339)]) rfl rfl (rm_lawW rfl (by omega) (by omega)) dL_law_3392 3395 rfl (k' := kq + 1) (n' := nq + 6) rfl rfl (fun q hq => hq.elim) ⟨h_cm, h_co, h_out⟩ (fun rv H1 lo1 hM hF hpo => ?_)
  subst hpo
  replace hzl := Nat.le_trans hzl hF.1
  replace h_cm := h_cm.kept hF 1 rfl (fun q _ _ h => h.elim)
  replace h_co := h_co.kept hF 28 rfl (fun q _ _ h => h.elim)
  replace h_bf := h_bf.kept hF 28 rfl (fun q _ _ h => h.elim)
  replace h_sv := h_sv.kept hF 28 rfl (fun q _ _ h => h.elim)
  replace h_hi := h_hi.kept hF 2 rfl (fun q _ _ h => h.elim)
  replace h_hf := h_hf.kept hF (fun q _ _ h => h.elim)
  replace h_dk := h_dk.kept hF 3 rfl (fun q _ _ h => h.elim)
  replace h_se := h_se.kept hF 5 rfl (fun q _ _ h => h.elim)
  replace h_pg := h_pg.kept hF 1 rfl (fun q _ _ h => h.elim)
  replace h_sb := h_sb.kept hF 1 rfl (fun q _ _ h => h.elim)
  replace h_sa := h_sa.kept hF 1 rfl (fun q _ _ h => h.elim)
  replace h_pr := h_pr.kept hF 10 rfl (fun q _ _ h => h.elim)
  replace h_ln := h_ln.kept hF 1 rfl (fun q _ _ h => h.elim)
  replace h_la := h_la.kept hF 1 rfl (fun q _ _ h => h.elim)
  replace h_mo := h_mo.kept hF 5 rfl (fun q _ _ h => h.elim)
  replace h_out := h_out.kept hF 1 rfl (fun q _ _ h => h.elim)
  replace h_outD := h_outD.kept hF 1 rfl (fun q _ _ h => h.elim)
  show V p l e room_1 s m args below meth cd Q 9 H1 lo1 (kq + 1) (nq + 6) 3395 [(5, .int (zI i)), (4, .ref (x + 340)), (3, .ref (x + 339)), (2, .ref (x + 334)), (1, .ref x), (0, .ref b)] [.int (zI 1)]
  refine v_istore X dL_law_3395 3397 rfl (by decide) (L' := [(6, .int (zI 1)), (5, .int (zI i)), (4, .ref (x + 340)), (3, .ref (x + 339)), (2, .ref (x + 334)), (1, .ref x), (0, .ref b)]) rfl ?_
  refine v_aload_n X dL_law_3397 3398 rfl 4 rfl ?_
  refine v_muV X hM (h_mo.1) (c_X10_isFailureOfState_0 l E (x + 334) mo fa ss (by omega) (by omega) (by omega) (by omega) (by omega) q0) kvX10_isFailureOfState kiX10_isFailureOfState kl_L_388 (q0 := 0) rfl rfl (As := []) rfl rfl (rm_law rfl (by omega) (by omega)) dL_law_3398 3401 rfl (k' := kq + 1) (n' := nq + 6) rfl rfl (fsI (fun q q1 q2 => (Or.inr (by omega)))) h_mo (fun rv H2 lo2 hM hF hpo => ?_)
  obtain ⟨rfl, hw_0⟩ := hpo
  have h_mo : PR E (x + 334) (modelW E (x + 334) (updC mo 0 (updZ (mo 0) 0 1))) H2 := hw_0
  replace hzl := Nat.le_trans hzl hF.1
  replace h_cm := h_cm.kept hF 1 rfl (fsd (by omega))
  replace h_co := h_co.kept hF 28 rfl (fsd (by omega))
  replace h_bf := h_bf.kept hF 28 rfl (fsd (by omega))
  replace h_sv := h_sv.kept hF 28 rfl (fsd (by omega))
  replace h_hi := h_hi.kept hF 2 rfl (fsd (by omega))
  replace h_hf := h_hf.kept hF (fsd (by omega))
  replace h_dk := h_dk.kept hF 3 rfl (fsd (by omega))
  replace h_se := h_se.kept hF 5 rfl (fsd (by omega))
  replace h_pg := h_pg.kept hF 1 rfl (fsd (by omega))
  replace h_sb := h_sb.kept hF 1 rfl (fsd (by omega))
  replace h_sa := h_sa.kept hF 1 rfl (fsd (by omega))
  replace h_pr := h_pr.kept hF 10 rfl (fsd (by omega))
  replace h_ln := h_ln.kept hF 1 rfl (fsd (by omega))
  replace h_la := h_la.kept hF 1 rfl (fsd (by omega))
  replace h_out := h_out.kept hF 1 rfl (fsd (by omega))
  replace h_outD := h_outD.kept hF 1 rfl (fsd (by omega))
  show V p l e room_1 s m args below meth cd Q 9 H2 lo2 (kq + 1) (nq + 6) 3401 [(6, .int (zI 1)), (5, .int (zI i)), (4, .ref (x + 340)), (3, .ref (x + 339)), (2, .ref (x + 334)), (1, .ref x), (0, .ref b)] [.int (zI 0)]
  refine v_istore X dL_law_3401 3403 rfl (by decide) (L' := [(7, .int (zI 0)), (6, .int (zI 1)), (5, .int (zI i)), (4, .ref (x + 340)), (3, .ref (x + 339)), (2, .ref (x + 334)), (1, .ref x), (0, .ref b)]) rfl ?_
  refine v_aload_n X dL_law_3403 3404 rfl 5 rfl ?_
  refine v_rdV X hM.C h_mo.1 (c_X10_thrown l E (x + 334) (updC mo 0 (updZ (mo 0) 0 1))) kvX10_thrown kiX10_thrown kl_L_196 rfl rfl (As := []) rfl rfl (rm_law0 rfl (by omega) (by omega)) dL_law_3404 3407 rfl ?_
  show V p l e room_1 s m args below meth cd Q 9 H2 lo2 (kq + 1) (nq + 6) 3407 [(7, .int (zI 0)), (6, .int (zI 1)), (5, .int (zI i)), (4, .ref (x + 340)), (3, .ref (x + 339)), (2, .ref (x + 334)), (1, .ref x), (0, .ref b)] [.int (zI 1)]
  refine v_iload X dL_law_3407 3409 rfl 1 rfl ?_
  refine v_icmp_eq X (by omega) (by omega) dL_law_3409 3412 3414 rfl (by decide) (fun c_3 => ?_) (fun c_3 => ?_)
  · skip
    refine v_iload X dL_law_3414 3416 rfl 1 rfl ?_
    refine v_if_ne X (by omega) dL_law_3416 3419 3438 rfl (by decide) (fun c_4 => ?_) (fun c_4 => ?_)
    · skip
      refine v_goto X dL_law_3438 3555 (by decide) ?_
      refine v_widen (k' := kq + 60) (n' := nq + 4000) (by omega) (by omega) ?_
      exact V_pick [2, 3, 4, 5, 6, 7] rfl (kk _ _ hM ⟨hzl, _, _, _, _, _, _, _, _, _, _, _, _, _, _, _, _, _, _, _, _, _, _, _, _, _, _, _, _, ⟨h_cm, h_co, h_bf, h_sv, h_hi, h_hf, h_dk, h_se, h_pg, h_sb, h_sa, h_pr, h_ln, h_la, h_mo, h_out, h_outD⟩, hP0.mo_0⟩)
    · skip
      exfalso; omega
  · skip
    exfalso; omega
end LAWOPS
