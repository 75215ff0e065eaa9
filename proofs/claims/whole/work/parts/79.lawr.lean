section LAWOPS
variable {p : Program} {l : Launch} {e : Env} {s : State} {m : MethodId} {args : Array Value} {below : List Frame} {meth : Method} {cd : Code} {Q : State → Prop} {H : Heap} {lo : List Loc} {kq nq : Nat} {E : Nat → Nat → Nat} {b Lx x : Nat} {xs : Nat → Int32} {i : Int}
set_option maxHeartbeats 4000000 in
set_option maxRecDepth 20000 in
theorem lo_caseOf (hl : l.stackTraces = false) (X : CF p m cd code 9 s args RL) (hX : va_X b Lx xs s s.heap) (hbl : b < s.heap.size) (hLx : Lx ≤ 2560) (hM : MS E [] s H lo) (hk : kq + 60 ≤ 603072) (hn : nq + 4000 ≤ 7211113) (hx : s.heap.size ≤ x) (hzl : x + 341 ≤ H.size) {v : Nat} {N : Nat} {f : Int → Int} {nn : Int} {v2 : Nat} {N2 : Nat} {f2 : Int → Int} {n2 : Int} {co : Nat → Int → Int} {bf : Nat → Int → Int} {cv : Nat → Int → Int} {hc : Nat → Nat → Int → Int} {nx : Int} {sz : Int} {hs : Int} {er : Int} {fa : Int} {ss : Int} {dk : Nat → Int → Int} {se : Nat → Int → Int} {po : Int} {si : Int} {pr : Nat → Int → Int} {ml : Int} {ml2 : Int} {mo : Nat → Int → Int} {lg : Nat → Int64} {dg : Nat → UInt64} (hW : LawW E x v N f nn v2 N2 f2 n2 co bf cv hc nx sz hs er fa ss dk se po si pr ml ml2 mo lg dg H) (hP : LawP x v N f nn v2 N2 f2 n2 co cv hc nx sz hs er fa ss po si pr mo) (i0 : 0 ≤ i) (i1 : i + 5 ≤ (Lx : Int)) {a1 : Int} (ha1 : (xs (i + 1).toNat).toInt = a1) (ga1 : Rg a1) {a2 : Int} (ha2 : (xs (i + 2).toNat).toInt = a2) (ga2 : Rg a2) (q0 : (0 ≤ a1 ∧ a1 < 6) ∧ (0 ≤ a2 ∧ a2 < 5)) (q1 : 0 ≤ firstZ (fun j => co 1 j = a1 ∧ co 2 j = a2) (co 0 0).toNat) (kk : ∀ (H1 : Heap) (lo1 : List Loc), MS E [] s H1 lo1 → LawI E x H1 → V p l e room_1 s m args below meth cd Q 9 H1 lo1 (kq + 60) (nq + 4000) 3555 [(5, .int (zI i)), (4, .ref (x + 340)), (3, .ref (x + 339)), (2, .ref (x + 334)), (1, .ref x), (0, .ref b)] []) : V p l e room_1 s m args below meth cd Q 9 H lo kq nq 828 [(5, .int (zI i)), (4, .ref (x + 340)), (3, .ref (x + 339)), (2, .ref (x + 334)), (1, .ref x), (0, .ref b)] [] := by
  obtain ⟨h_cm, h_co, h_bf, h_sv, h_hi, h_hf, h_dk, h_se, h_pg, h_sb, h_sa, h_pr, h_ln, h_la, h_mo, h_out, h_outD⟩ := hW
  have hP0 := hP
  obtain ⟨⟨hD, hDv, hDh⟩, ⟨hRM, hch, hcs⟩, ⟨⟨n0, n1⟩, ⟨s0, s1⟩, hhs⟩, ⟨hm8, hnn, hAg, hNN, hnN, hf9⟩, ⟨T, hSB, hLT, hn38⟩, hPB, ⟨her, hfa, hss, ger, gfa, gss, gms⟩, ⟨gpo, gsi⟩, ⟨hv1, hv2, hvv⟩⟩ := hP
  have hO := hD.inv.ok
  have hI := hD.inv.ts
  have hSt := hD.inv.st
  have hS := hD.inv.sn
  have hR := hRM.1.2
  have hG := gp_inv hD
  have hb0 := hO.b0
  have hbw := hO.bw
  have hbf : ¬ Fr [] s.heap.size b := fun z => z.elim (fun q => q.elim) (fun q => by omega)
  refine v_aload_n X dL_law_828 829 rfl 4 rfl ?_
  refine v_aload_n X dL_law_829 830 rfl 5 rfl ?_
  refine v_iload X dL_law_830 832 rfl 0 rfl ?_
  refine v_iconst X dL_law_832 833 rfl ?_
  refine v_iadd X dL_law_833 834 rfl ?_
  refine v_scr X hM hX hbl hbf (by omega) (by omega) hLx ha1 dL_law_834 835 rfl ?_
  refine v_aload_n X dL_law_835 836 rfl 5 rfl ?_
  refine v_iload X dL_law_836 838 rfl 0 rfl ?_
  refine v_iconst X dL_law_838 839 rfl ?_
  refine v_iadd X dL_law_839 840 rfl ?_
  refine v_scr X hM hX hbl hbf (by omega) (by omega) hLx ha2 dL_law_840 841 rfl ?_
  refine v_aload_n X dL_law_841 842 rfl 2 rfl ?_
  refine v_mwS X hM (w_X9_caseOf l hl E x co hs er fa ss a1 a2 (x + 339) lg hO ga1 ga2 q0 q1 (by omega) (by omega)) kwL_caseOf ksL_caseOf kl_L_224 (As := [.ref x, .int (zI a1), .int (zI a2), .ref (x + 339)]) rfl rfl (rm_lawW rfl (by omega) (by omega)) dL_law_842 845 rfl (k' := kq + 1) (n' := nq + 6) rfl rfl (fsI (fun q q1 q2 => (Or.inr (by omega)))) ⟨h_cm, h_co, h_out⟩ (fun rv H1 lo1 hM hF hpo => ?_)
  obtain ⟨rfl, hw_0⟩ := hpo
  have h_out : PR E (x + 339) [(x + 339, .inl (E 102 4, 1, .inr (.inl (fun _ => zL (firstZ (fun j => co 1 j = a1 ∧ co 2 j = a2) (co 0 0).toNat)))))] H1 := hw_0
  replace hzl := Nat.le_trans hzl hF.1
  replace h_cm := h_cm.kept hF 1 rfl (fsd (by omega))
  replace h_co := h_co.kept hF 28 rfl (fsd (by omega))
  replace h_bf := h_bf.kept hF 28 rfl (fsd (by omega))
  replace h_sv := h_sv.kept hF 28 rfl (fsd (by omega))
  replace h_hi := h_hi.kept hF 2 rfl (fsd (by omega))
  replace h_hf := h_hf.kept hF (fsd (by omega))
  replace h_dk := h_dk.kept hF 3 rfl (fsd (by omega))
  replace h_se := h_se.kept hF 5 rfl (fsd (by omega))
  replace h_pg := h_pg.kept hF 1 rfl (fsd (by omega))
  replace h_sb := h_sb.kept hF 1 rfl (fsd (by omega))
  replace h_sa := h_sa.kept hF 1 rfl (fsd (by omega))
  replace h_pr := h_pr.kept hF 10 rfl (fsd (by omega))
  replace h_ln := h_ln.kept hF 1 rfl (fsd (by omega))
  replace h_la := h_la.kept hF 1 rfl (fsd (by omega))
  replace h_mo := h_mo.kept hF 5 rfl (fsd (by omega))
  replace h_outD := h_outD.kept hF 1 rfl (fsd (by omega))
  show V p l e room_1 s m args below meth cd Q 9 H1 lo1 (kq + 1) (nq + 6) 845 [(5, .int (zI i)), (4, .ref (x + 340)), (3, .ref (x + 339)), (2, .ref (x + 334)), (1, .ref x), (0, .ref b)] [.int (zI 0)]
  refine v_istore X dL_law_845 847 rfl (by decide) (L' := [(6, .int (zI 0)), (5, .int (zI i)), (4, .ref (x + 340)), (3, .ref (x + 339)), (2, .ref (x + 334)), (1, .ref x), (0, .ref b)]) rfl ?_
  refine v_aload_n X dL_law_847 848 rfl 4 rfl ?_
  refine v_aload_n X dL_law_848 849 rfl 6 rfl ?_
  refine v_iload X dL_law_849 851 rfl 1 rfl ?_
  refine v_iconst X dL_law_851 852 rfl ?_
  refine v_iadd X dL_law_852 853 rfl ?_
  refine v_scr X hM hX hbl hbf (by omega) (by omega) hLx ha1 dL_law_853 854 rfl ?_
  refine v_aload_n X dL_law_854 855 rfl 6 rfl ?_
  refine v_iload X dL_law_855 857 rfl 1 rfl ?_
  refine v_iconst X dL_law_857 858 rfl ?_
  refine v_iadd X dL_law_858 859 rfl ?_
  refine v_scr X hM hX hbl hbf (by omega) (by omega) hLx ha2 dL_law_859 860 rfl ?_
  refine v_muV X hM (h_mo.1) (c_X10_caseOf l E (x + 334) mo co a1 a2 hO hR ga1 ga2 q0 q1) kvX10_caseOf kiX10_caseOf kl_L_226 (q0 := 0) rfl rfl (As := [.int (zI a1), .int (zI a2)]) rfl rfl (rm_law rfl (by omega) (by omega)) dL_law_860 863 rfl (k' := kq + 1) (n' := nq + 6) rfl rfl (fsI (fun q q1 q2 => (Or.inr (by omega)))) h_mo (fun rv H2 lo2 hM hF hpo => ?_)
  obtain ⟨rfl, hw_0⟩ := hpo
  have h_mo : PR E (x + 334) (modelW E (x + 334) (updC mo 0 (updZ (mo 0) 0 0))) H2 := hw_0
  replace hzl := Nat.le_trans hzl hF.1
  replace h_cm := h_cm.kept hF 1 rfl (fsd (by omega))
  replace h_co := h_co.kept hF 28 rfl (fsd (by omega))
  replace h_bf := h_bf.kept hF 28 rfl (fsd (by omega))
  replace h_sv := h_sv.kept hF 28 rfl (fsd (by omega))
  replace h_hi := h_hi.kept hF 2 rfl (fsd (by omega))
  replace h_hf := h_hf.kept hF (fsd (by omega))
  replace h_dk := h_dk.kept hF 3 rfl (fsd (by omega))
  replace h_se := h_se.kept hF 5 rfl (fsd (by omega))
  replace h_pg := h_pg.kept hF 1 rfl (fsd (by omega))
  replace h_sb := h_sb.kept hF 1 rfl (fsd (by omega))
  replace h_sa := h_sa.kept hF 1 rfl (fsd (by omega))
  replace h_pr := h_pr.kept hF 10 rfl (fsd (by omega))
  replace h_ln := h_ln.kept hF 1 rfl (fsd (by omega))
  replace h_la := h_la.kept hF 1 rfl (fsd (by omega))
  replace h_out := h_out.kept hF 1 rfl (fsd (by omega))
  replace h_outD := h_outD.kept hF 1 rfl (fsd (by omega))
  show V p l e room_1 s m args below meth cd Q 9 H2 lo2 (kq + 1) (nq + 6) 863 [(6, .int (zI 0)), (5, .int (zI i)), (4, .ref (x + 340)), (3, .ref (x + 339)), (2, .ref (x + 334)), (1, .ref x), (0, .ref b)] [.int (zI (firstZ (fun j => co 1 j = a1 ∧ co 2 j = a2) (co 0 0).toNat))]
  refine v_istore X dL_law_863 865 rfl (by decide) (L' := [(7, .int (zI (firstZ (fun j => co 1 j = a1 ∧ co 2 j = a2) (co 0 0).toNat))), (6, .int (zI 0)), (5, .int (zI i)), (4, .ref (x + 340)), (3, .ref (x + 339)), (2, .ref (x + 334)), (1, .ref x), (0, .ref b)]) rfl ?_
  refine v_aload_n X dL_law_865 866 rfl 5 rfl ?_
  refine v_rdV X hM.C h_mo.1 (c_X10_thrown l E (x + 334) (updC mo 0 (updZ (mo 0) 0 0))) kvX10_thrown kiX10_thrown kl_L_196 rfl rfl (As := []) rfl rfl (rm_law0 rfl (by omega) (by omega)) dL_law_866 869 rfl ?_
  show V p l e room_1 s m args below meth cd Q 9 H2 lo2 (kq + 1) (nq + 6) 869 [(7, .int (zI (firstZ (fun j => co 1 j = a1 ∧ co 2 j = a2) (co 0 0).toNat))), (6, .int (zI 0)), (5, .int (zI i)), (4, .ref (x + 340)), (3, .ref (x + 339)), (2, .ref (x + 334)), (1, .ref x), (0, .ref b)] [.int (zI 0)]
  refine v_iload X dL_law_869 871 rfl 1 rfl ?_
  refine v_icmp_eq X (by omega) (by omega) dL_law_871 874 876 rfl (by decide) (fun c_3 => ?_) (fun c_3 => ?_)
  · skip
    refine v_iload X dL_law_876 878 rfl 1 rfl ?_
    refine v_if_ne X (by omega) dL_law_878 881 893 rfl (by decide) (fun c_4 => ?_) (fun c_4 => ?_)
    · skip
      exfalso; omega
    · skip
      refine v_aload_n X dL_law_881 882 rfl 4 rfl ?_
      refine v_iconst X dL_law_882 883 rfl ?_
      refine v_lald X hM.C h_out.1 0 rfl dL_law_883 884 rfl ?_
      show V p l e room_1 s m args below meth cd Q 9 H2 lo2 (kq + 1) (nq + 6) 884 [(7, .int (zI (firstZ (fun j => co 1 j = a1 ∧ co 2 j = a2) (co 0 0).toNat))), (6, .int (zI 0)), (5, .int (zI i)), (4, .ref (x + 340)), (3, .ref (x + 339)), (2, .ref (x + 334)), (1, .ref x), (0, .ref b)] [.long (zL (firstZ (fun j => co 1 j = a1 ∧ co 2 j = a2) (co 0 0).toNat))]
      refine v_iload X dL_law_884 886 rfl 0 rfl ?_
      refine v_i2l X dL_law_886 887 rfl ?_
      refine v_lcmp0 X dL_law_887 888 rfl ?_
      refine v_if_eq X (by omega) dL_law_888 891 893 rfl (by decide) (fun c_5 => ?_) (fun c_5 => ?_)
      · skip
        refine v_goto X dL_law_893 3555 (by decide) ?_
        refine v_widen (k' := kq + 60) (n' := nq + 4000) (by omega) (by omega) ?_
        exact V_pick [2, 3, 4, 5, 6, 7] rfl (kk _ _ hM ⟨hzl, _, _, _, _, _, _, _, _, _, _, _, _, _, _, _, _, _, _, _, _, _, _, _, _, _, _, _, _, ⟨h_cm, h_co, h_bf, h_sv, h_hi, h_hf, h_dk, h_se, h_pg, h_sb, h_sa, h_pr, h_ln, h_la, h_mo, h_out, h_outD⟩, hP0.mo_0⟩)
      · skip
        exfalso; omega
  · skip
    exfalso; omega
set_option maxHeartbeats 4000000 in
set_option maxRecDepth 20000 in
theorem lo_caseOf_1 (hl : l.stackTraces = false) (X : CF p m cd code 9 s args RL) (hX : va_X b Lx xs s s.heap) (hbl : b < s.heap.size) (hLx : Lx ≤ 2560) (hM : MS E [] s H lo) (hk : kq + 60 ≤ 603072) (hn : nq + 4000 ≤ 7211113) (hx : s.heap.size ≤ x) (hzl : x + 341 ≤ H.size) {v : Nat} {N : Nat} {f : Int → Int} {nn : Int} {v2 : Nat} {N2 : Nat} {f2 : Int → Int} {n2 : Int} {co : Nat → Int → Int} {bf : Nat → Int → Int} {cv : Nat → Int → Int} {hc : Nat → Nat → Int → Int} {nx : Int} {sz : Int} {hs : Int} {er : Int} {fa : Int} {ss : Int} {dk : Nat → Int → Int} {se : Nat → Int → Int} {po : Int} {si : Int} {pr : Nat → Int → Int} {ml : Int} {ml2 : Int} {mo : Nat → Int → Int} {lg : Nat → Int64} {dg : Nat → UInt64} (hW : LawW E x v N f nn v2 N2 f2 n2 co bf cv hc nx sz hs er fa ss dk se po si pr ml ml2 mo lg dg H) (hP : LawP x v N f nn v2 N2 f2 n2 co cv hc nx sz hs er fa ss po si pr mo) (i0 : 0 ≤ i) (i1 : i + 5 ≤ (Lx : Int)) {a1 : Int} (ha1 : (xs (i + 1).toNat).toInt = a1) (ga1 : Rg a1) {a2 : Int} (ha2 : (xs (i + 2).toNat).toInt = a2) (ga2 : Rg a2) (q0 : ¬ ((0 ≤ a1 ∧ a1 < 6) ∧ (0 ≤ a2 ∧ a2 < 5))) (kk : ∀ (H1 : Heap) (lo1 : List Loc), MS E [] s H1 lo1 → LawI E x H1 → V p l e room_1 s m args below meth cd Q 9 H1 lo1 (kq + 60) (nq + 4000) 3555 [(5, .int (zI i)), (4, .ref (x + 340)), (3, .ref (x + 339)), (2, .ref (x + 334)), (1, .ref x), (0, .ref b)] []) : V p l e room_1 s m args below meth cd Q 9 H lo kq nq 828 [(5, .int (zI i)), (4, .ref (x + 340)), (3, .ref (x + 339)), (2, .ref (x + 334)), (1, .ref x), (0, .ref b)] [] := by
  obtain ⟨h_cm, h_co, h_bf, h_sv, h_hi, h_hf, h_dk, h_se, h_pg, h_sb, h_sa, h_pr, h_ln, h_la, h_mo, h_out, h_outD⟩ := hW
  have hP0 := hP
  obtain ⟨⟨hD, hDv, hDh⟩, ⟨hRM, hch, hcs⟩, ⟨⟨n0, n1⟩, ⟨s0, s1⟩, hhs⟩, ⟨hm8, hnn, hAg, hNN, hnN, hf9⟩, ⟨T, hSB, hLT, hn38⟩, hPB, ⟨her, hfa, hss, ger, gfa, gss, gms⟩, ⟨gpo, gsi⟩, ⟨hv1, hv2, hvv⟩⟩ := hP
  have hO := hD.inv.ok
  have hI := hD.inv.ts
  have hSt := hD.inv.st
  have hS := hD.inv.sn
  have hR := hRM.1.2
  have hG := gp_inv hD
  have hb0 := hO.b0
  have hbw := hO.bw
  have hbf : ¬ Fr [] s.heap.size b := fun z => z.elim (fun q => q.elim) (fun q => by omega)
  refine v_aload_n X dL_law_828 829 rfl 4 rfl ?_
  refine v_aload_n X dL_law_829 830 rfl 5 rfl ?_
  refine v_iload X dL_law_830 832 rfl 0 rfl ?_
  refine v_iconst X dL_law_832 833 rfl ?_
  refine v_iadd X dL_law_833 834 rfl ?_
  refine v_scr X hM hX hbl hbf (by omega) (by omega) hLx ha1 dL_law_834 835 rfl ?_
  refine v_aload_n X dL_law_835 836 rfl 5 rfl ?_
  refine v_iload X dL_law_836 838 rfl 0 rfl ?_
  refine v_iconst X dL_law_838 839 rfl ?_
  refine v_iadd X dL_law_839 840 rfl ?_
  refine v_scr X hM hX hbl hbf (by omega) (by omega) hLx ha2 dL_law_840 841 rfl ?_
  refine v_aload_n X dL_law_841 842 rfl 2 rfl ?_
  refine v_mwS X hM (w_X9_caseOf_0_t l hl E x co hs er fa ss a1 a2 (x + 339) lg hO ga1 ga2 q0) kwL_caseOf ksL_caseOf kl_L_224 (As := [.ref x, .int (zI a1), .int (zI a2), .ref (x + 339)]) rfl rfl (rm_lawW rfl (by omega) (by omega)) dL_law_842 845 rfl (k' := kq + 1) (n' := nq + 6) rfl rfl (fun q hq => hq.elim) ⟨h_cm, h_co, h_out⟩ (fun rv H1 lo1 hM hF hpo => ?_)
  subst hpo
  replace hzl := Nat.le_trans hzl hF.1
  replace h_cm := h_cm.kept hF 1 rfl (fun q _ _ h => h.elim)
  replace h_co := h_co.kept hF 28 rfl (fun q _ _ h => h.elim)
  replace h_bf := h_bf.kept hF 28 rfl (fun q _ _ h => h.elim)
  replace h_sv := h_sv.kept hF 28 rfl (fun q _ _ h => h.elim)
  replace h_hi := h_hi.kept hF 2 rfl (fun q _ _ h => h.elim)
  replace h_hf := h_hf.kept hF (fun q _ _ h => h.elim)
  replace h_dk := h_dk.kept hF 3 rfl (fun q _ _ h => h.elim)
  replace h_se := h_se.kept hF 5 rfl (fun q _ _ h => h.elim)
  replace h_pg := h_pg.kept hF 1 rfl (fun q _ _ h => h.elim)
  replace h_sb := h_sb.kept hF 1 rfl (fun q _ _ h => h.elim)
  replace h_sa := h_sa.kept hF 1 rfl (fun q _ _ h => h.elim)
  replace h_pr := h_pr.kept hF 10 rfl (fun q _ _ h => h.elim)
  replace h_ln := h_ln.kept hF 1 rfl (fun q _ _ h => h.elim)
  replace h_la := h_la.kept hF 1 rfl (fun q _ _ h => h.elim)
  replace h_mo := h_mo.kept hF 5 rfl (fun q _ _ h => h.elim)
  replace h_out := h_out.kept hF 1 rfl (fun q _ _ h => h.elim)
  replace h_outD := h_outD.kept hF 1 rfl (fun q _ _ h => h.elim)
  show V p l e room_1 s m args below meth cd Q 9 H1 lo1 (kq + 1) (nq + 6) 845 [(5, .int (zI i)), (4, .ref (x + 340)), (3, .ref (x + 339)), (2, .ref (x + 334)), (1, .ref x), (0, .ref b)] [.int (zI 1)]
  refine v_istore X dL_law_845 847 rfl (by decide) (L' := [(6, .int (zI 1)), (5, .int (zI i)), (4, .ref (x + 340)), (3, .ref (x + 339)), (2, .ref (x + 334)), (1, .ref x), (0, .ref b)]) rfl ?_
  refine v_aload_n X dL_law_847 848 rfl 4 rfl ?_
  refine v_aload_n X dL_law_848 849 rfl 6 rfl ?_
  refine v_iload X dL_law_849 851 rfl 1 rfl ?_
  refine v_iconst X dL_law_851 852 rfl ?_
  refine v_iadd X dL_law_852 853 rfl ?_
  refine v_scr X hM hX hbl hbf (by omega) (by omega) hLx ha1 dL_law_853 854 rfl ?_
  refine v_aload_n X dL_law_854 855 rfl 6 rfl ?_
  refine v_iload X dL_law_855 857 rfl 1 rfl ?_
  refine v_iconst X dL_law_857 858 rfl ?_
  refine v_iadd X dL_law_858 859 rfl ?_
  refine v_scr X hM hX hbl hbf (by omega) (by omega) hLx ha2 dL_law_859 860 rfl ?_
  refine v_muV X hM (h_mo.1) (c_X10_caseOf_0 l E (x + 334) mo co a1 a2 hO hR ga1 ga2 q0) kvX10_caseOf kiX10_caseOf kl_L_226 (q0 := 0) rfl rfl (As := [.int (zI a1), .int (zI a2)]) rfl rfl (rm_law rfl (by omega) (by omega)) dL_law_860 863 rfl (k' := kq + 1) (n' := nq + 6) rfl rfl (fsI (fun q q1 q2 => (Or.inr (by omega)))) h_mo (fun rv H2 lo2 hM hF hpo => ?_)
  obtain ⟨rfl, hw_0⟩ := hpo
  have h_mo : PR E (x + 334) (modelW E (x + 334) (updC mo 0 (updZ (mo 0) 0 1))) H2 := hw_0
  replace hzl := Nat.le_trans hzl hF.1
  replace h_cm := h_cm.kept hF 1 rfl (fsd (by omega))
  replace h_co := h_co.kept hF 28 rfl (fsd (by omega))
  replace h_bf := h_bf.kept hF 28 rfl (fsd (by omega))
  replace h_sv := h_sv.kept hF 28 rfl (fsd (by omega))
  replace h_hi := h_hi.kept hF 2 rfl (fsd (by omega))
  replace h_hf := h_hf.kept hF (fsd (by omega))
  replace h_dk := h_dk.kept hF 3 rfl (fsd (by omega))
  replace h_se := h_se.kept hF 5 rfl (fsd (by omega))
  replace h_pg := h_pg.kept hF 1 rfl (fsd (by omega))
  replace h_sb := h_sb.kept hF 1 rfl (fsd (by omega))
  replace h_sa := h_sa.kept hF 1 rfl (fsd (by omega))
  replace h_pr := h_pr.kept hF 10 rfl (fsd (by omega))
  replace h_ln := h_ln.kept hF 1 rfl (fsd (by omega))
  replace h_la := h_la.kept hF 1 rfl (fsd (by omega))
  replace h_out := h_out.kept hF 1 rfl (fsd (by omega))
  replace h_outD := h_outD.kept hF 1 rfl (fsd (by omega))
  show V p l e room_1 s m args below meth cd Q 9 H2 lo2 (kq + 1) (nq + 6) 863 [(6, .int (zI 1)), (5, .int (zI i)), (4, .ref (x + 340)), (3, .ref (x + 339)), (2, .ref (x + 334)), (1, .ref x), (0, .ref b)] [.int (zI 0)]
  refine v_istore X dL_law_863 865 rfl (by decide) (L' := [(7, .int (zI 0)), (6, .int (zI 1)), (5, .int (zI i)), (4, .ref (x + 340)), (3, .ref (x + 339)), (2, .ref (x + 334)), (1, .ref x), (0, .ref b)]) rfl ?_
  refine v_aload_n X dL_law_865 866 rfl 5 rfl ?_
  refine v_rdV X hM.C h_mo.1 (c_X10_thrown l E (x + 334) (updC mo 0 (updZ (mo 0) 0 1))) kvX10_thrown kiX10_thrown kl_L_196 rfl rfl (As := []) rfl rfl (rm_law0 rfl (by omega) (by omega)) dL_law_866 869 rfl ?_
  show V p l e room_1 s m args below meth cd Q 9 H2 lo2 (kq + 1) (nq + 6) 869 [(7, .int (zI 0)), (6, .int (zI 1)), (5, .int (zI i)), (4, .ref (x + 340)), (3, .ref (x + 339)), (2, .ref (x + 334)), (1, .ref x), (0, .ref b)] [.int (zI 1)]
  refine v_iload X dL_law_869 871 rfl 1 rfl ?_
  refine v_icmp_eq X (by omega) (by omega) dL_law_871 874 876 rfl (by decide) (fun c_3 => ?_) (fun c_3 => ?_)
  · skip
    refine v_iload X dL_law_876 878 rfl 1 rfl ?_
    refine v_if_ne X (by omega) dL_law_878 881 893 rfl (by decide) (fun c_4 => ?_) (fun c_4 => ?_)
    · skip
      refine v_goto X dL_law_893 3555 (by decide) ?_
      refine v_widen (k' := kq + 60) (n' := nq + 4000) (by omega) (by omega) ?_
      exact V_pick [2, 3, 4, 5, 6, 7] rfl (kk _ _ hM ⟨hzl, _, _, _, _, _, _, _, _, _, _, _, _, _, _, _, _, _, _, _, _, _, _, _, _, _, _, _, _, ⟨h_cm, h_co, h_bf, h_sv, h_hi, h_hf, h_dk, h_se, h_pg, h_sb, h_sa, h_pr, h_ln, h_la, h_mo, h_out, h_outD⟩, hP0.mo_0⟩)
    · skip
      exfalso; omega
  · skip
    exfalso; omega
set_option maxHeartbeats 4000000 in
set_option maxRecDepth 20000 in
theorem lo_caseOf_2 (hl : l.stackTraces = false) (X : CF p m cd code 9 s args RL) (hX : va_X b Lx xs s s.heap) (hbl : b < s.heap.size) (hLx : Lx ≤ 2560) (hM : MS E [] s H lo) (hk : kq + 60 ≤ 603072) (hn : nq + 4000 ≤ 7211113) (hx : s.heap.size ≤ x) (hzl : x + 341 ≤ H.size) {v : Nat} {N : Nat} {f : Int → Int} {nn : Int} {v2 : Nat} {N2 : Nat} {f2 : Int → Int} {n2 : Int} {co : Nat → Int → Int} {bf : Nat → Int → Int} {cv : Nat → Int → Int} {hc : Nat → Nat → Int → Int} {nx : Int} {sz : Int} {hs : Int} {er : Int} {fa : Int} {ss : Int} {dk : Nat → Int → Int} {se : Nat → Int → Int} {po : Int} {si : Int} {pr : Nat → Int → Int} {ml : Int} {ml2 : Int} {mo : Nat → Int → Int} {lg : Nat → Int64} {dg : Nat → UInt64} (hW : LawW E x v N f nn v2 N2 f2 n2 co bf cv hc nx sz hs er fa ss dk se po si pr ml ml2 mo lg dg H) (hP : LawP x v N f nn v2 N2 f2 n2 co cv hc nx sz hs er fa ss po si pr mo) (i0 : 0 ≤ i) (i1 : i + 5 ≤ (Lx : Int)) {a1 : Int} (ha1 : (xs (i + 1).toNat).toInt = a1) (ga1 : Rg a1) {a2 : Int} (ha2 : (xs (i + 2).toNat).toInt = a2) (ga2 : Rg a2) (q0 : (0 ≤ a1 ∧ a1 < 6) ∧ (0 ≤ a2 ∧ a2 < 5)) (q1 : ¬ (0 ≤ firstZ (fun j => co 1 j = a1 ∧ co 2 j = a2) (co 0 0).toNat)) (kk : ∀ (H1 : Heap) (lo1 : List Loc), MS E [] s H1 lo1 → LawI E x H1 → V p l e room_1 s m args below meth cd Q 9 H1 lo1 (kq + 60) (nq + 4000) 3555 [(5, .int (zI i)), (4, .ref (x + 340)), (3, .ref (x + 339)), (2, .ref (x + 334)), (1, .ref x), (0, .ref b)] []) : V p l e room_1 s m args below meth cd Q 9 H lo kq nq 828 [(5, .int (zI i)), (4, .ref (x + 340)), (3, .ref (x + 339)), (2, .ref (x + 334)), (1, .ref x), (0, .ref b)] [] := by
  obtain ⟨h_cm, h_co, h_bf, h_sv, h_hi, h_hf, h_dk, h_se, h_pg, h_sb, h_sa, h_pr, h_ln, h_la, h_mo, h_out, h_outD⟩ := hW
  have hP0 := hP
  obtain ⟨⟨hD, hDv, hDh⟩, ⟨hRM, hch, hcs⟩, ⟨⟨n0, n1⟩, ⟨s0, s1⟩, hhs⟩, ⟨hm8, hnn, hAg, hNN, hnN, hf9⟩, ⟨T, hSB, hLT, hn38⟩, hPB, ⟨her, hfa, hss, ger, gfa, gss, gms⟩, ⟨gpo, gsi⟩, ⟨hv1, hv2, hvv⟩⟩ := hP
  have hO := hD.inv.ok
  have hI := hD.inv.ts
  have hSt := hD.inv.st
  have hS := hD.inv.sn
  have hR := hRM.1.2
  have hG := gp_inv hD
  have hb0 := hO.b0
  have hbw := hO.bw
  have hbf : ¬ Fr [] s.heap.size b := fun z => z.elim (fun q => q.elim) (fun q => by omega)
  refine v_aload_n X dL_law_828 829 rfl 4 rfl ?_
  refine v_aload_n X dL_law_829 830 rfl 5 rfl ?_
  refine v_iload X dL_law_830 832 rfl 0 rfl ?_
  refine v_iconst X dL_law_832 833 rfl ?_
  refine v_iadd X dL_law_833 834 rfl ?_
  refine v_scr X hM hX hbl hbf (by omega) (by omega) hLx ha1 dL_law_834 835 rfl ?_
  refine v_aload_n X dL_law_835 836 rfl 5 rfl ?_
  refine v_iload X dL_law_836 838 rfl 0 rfl ?_
  refine v_iconst X dL_law_838 839 rfl ?_
  refine v_iadd X dL_law_839 840 rfl ?_
  refine v_scr X hM hX hbl hbf (by omega) (by omega) hLx ha2 dL_law_840 841 rfl ?_
  refine v_aload_n X dL_law_841 842 rfl 2 rfl ?_
  refine v_mwS X hM (w_X9_caseOf_1_t l hl E x co hs er fa ss a1 a2 (x + 339) lg hO ga1 ga2 q0 q1) kwL_caseOf ksL_caseOf kl_L_224 (As := [.ref x, .int (zI a1), .int (zI a2), .ref (x + 339)]) rfl rfl (rm_lawW rfl (by omega) (by omega)) dL_law_842 845 rfl (k' := kq + 1) (n' := nq + 6) rfl rfl (fun q hq => hq.elim) ⟨h_cm, h_co, h_out⟩ (fun rv H1 lo1 hM hF hpo => ?_)
  subst hpo
  replace hzl := Nat.le_trans hzl hF.1
  replace h_cm := h_cm.kept hF 1 rfl (fun q _ _ h => h.elim)
  replace h_co := h_co.kept hF 28 rfl (fun q _ _ h => h.elim)
  replace h_bf := h_bf.kept hF 28 rfl (fun q _ _ h => h.elim)
  replace h_sv := h_sv.kept hF 28 rfl (fun q _ _ h => h.elim)
  replace h_hi := h_hi.kept hF 2 rfl (fun q _ _ h => h.elim)
  replace h_hf := h_hf.kept hF (fun q _ _ h => h.elim)
  replace h_dk := h_dk.kept hF 3 rfl (fun q _ _ h => h.elim)
  replace h_se := h_se.kept hF 5 rfl (fun q _ _ h => h.elim)
  replace h_pg := h_pg.kept hF 1 rfl (fun q _ _ h => h.elim)
  replace h_sb := h_sb.kept hF 1 rfl (fun q _ _ h => h.elim)
  replace h_sa := h_sa.kept hF 1 rfl (fun q _ _ h => h.elim)
  replace h_pr := h_pr.kept hF 10 rfl (fun q _ _ h => h.elim)
  replace h_ln := h_ln.kept hF 1 rfl (fun q _ _ h => h.elim)
  replace h_la := h_la.kept hF 1 rfl (fun q _ _ h => h.elim)
  replace h_mo := h_mo.kept hF 5 rfl (fun q _ _ h => h.elim)
  replace h_out := h_out.kept hF 1 rfl (fun q _ _ h => h.elim)
  replace h_outD := h_outD.kept hF 1 rfl (fun q _ _ h => h.elim)
  show V p l e room_1 s m args below meth cd Q 9 H1 lo1 (kq + 1) (nq + 6) 845 [(5, .int (zI i)), (4, .ref (x + 340)), (3, .ref (x + 339)), (2, .ref (x + 334)), (1, .ref x), (0, .ref b)] [.int (zI 2)]
  refine v_istore X dL_law_845 847 rfl (by decide) (L' := [(6, .int (zI 2)), (5, .int (zI i)), (4, .ref (x + 340)), (3, .ref (x + 339)), (2, .ref (x + 334)), (1, .ref x), (0, .ref b)]) rfl ?_
  refine v_aload_n X dL_law_847 848 rfl 4 rfl ?_
  refine v_aload_n X dL_law_848 849 rfl 6 rfl ?_
  refine v_iload X dL_law_849 851 rfl 1 rfl ?_
  refine v_iconst X dL_law_851 852 rfl ?_
  refine v_iadd X dL_law_852 853 rfl ?_
  refine v_scr X hM hX hbl hbf (by omega) (by omega) hLx ha1 dL_law_853 854 rfl ?_
  refine v_aload_n X dL_law_854 855 rfl 6 rfl ?_
  refine v_iload X dL_law_855 857 rfl 1 rfl ?_
  refine v_iconst X dL_law_857 858 rfl ?_
  refine v_iadd X dL_law_858 859 rfl ?_
  refine v_scr X hM hX hbl hbf (by omega) (by omega) hLx ha2 dL_law_859 860 rfl ?_
  refine v_muV X hM (h_mo.1) (c_X10_caseOf_1 l E (x + 334) mo co a1 a2 hO hR ga1 ga2 q0 q1) kvX10_caseOf kiX10_caseOf kl_L_226 (q0 := 0) rfl rfl (As := [.int (zI a1), .int (zI a2)]) rfl rfl (rm_law rfl (by omega) (by omega)) dL_law_860 863 rfl (k' := kq + 1) (n' := nq + 6) rfl rfl (fsI (fun q q1 q2 => (Or.inr (by omega)))) h_mo (fun rv H2 lo2 hM hF hpo => ?_)
  obtain ⟨rfl, hw_0⟩ := hpo
  have h_mo : PR E (x + 334) (modelW E (x + 334) (updC mo 0 (updZ (mo 0) 0 2))) H2 := hw_0
  replace hzl := Nat.le_trans hzl hF.1
  replace h_cm := h_cm.kept hF 1 rfl (fsd (by omega))
  replace h_co := h_co.kept hF 28 rfl (fsd (by omega))
  replace h_bf := h_bf.kept hF 28 rfl (fsd (by omega))
  replace h_sv := h_sv.kept hF 28 rfl (fsd (by omega))
  replace h_hi := h_hi.kept hF 2 rfl (fsd (by omega))
  replace h_hf := h_hf.kept hF (fsd (by omega))
  replace h_dk := h_dk.kept hF 3 rfl (fsd (by omega))
  replace h_se := h_se.kept hF 5 rfl (fsd (by omega))
  replace h_pg := h_pg.kept hF 1 rfl (fsd (by omega))
  replace h_sb := h_sb.kept hF 1 rfl (fsd (by omega))
  replace h_sa := h_sa.kept hF 1 rfl (fsd (by omega))
  replace h_pr := h_pr.kept hF 10 rfl (fsd (by omega))
  replace h_ln := h_ln.kept hF 1 rfl (fsd (by omega))
  replace h_la := h_la.kept hF 1 rfl (fsd (by omega))
  replace h_out := h_out.kept hF 1 rfl (fsd (by omega))
  replace h_outD := h_outD.kept hF 1 rfl (fsd (by omega))
  show V p l e room_1 s m args below meth cd Q 9 H2 lo2 (kq + 1) (nq + 6) 863 [(6, .int (zI 2)), (5, .int (zI i)), (4, .ref (x + 340)), (3, .ref (x + 339)), (2, .ref (x + 334)), (1, .ref x), (0, .ref b)] [.int (zI 0)]
  refine v_istore X dL_law_863 865 rfl (by decide) (L' := [(7, .int (zI 0)), (6, .int (zI 2)), (5, .int (zI i)), (4, .ref (x + 340)), (3, .ref (x + 339)), (2, .ref (x + 334)), (1, .ref x), (0, .ref b)]) rfl ?_
  refine v_aload_n X dL_law_865 866 rfl 5 rfl ?_
  refine v_rdV X hM.C h_mo.1 (c_X10_thrown l E (x + 334) (updC mo 0 (updZ (mo 0) 0 2))) kvX10_thrown kiX10_thrown kl_L_196 rfl rfl (As := []) rfl rfl (rm_law0 rfl (by omega) (by omega)) dL_law_866 869 rfl ?_
  show V p l e room_1 s m args below meth cd Q 9 H2 lo2 (kq + 1) (nq + 6) 869 [(7, .int (zI 0)), (6, .int (zI 2)), (5, .int (zI i)), (4, .ref (x + 340)), (3, .ref (x + 339)), (2, .ref (x + 334)), (1, .ref x), (0, .ref b)] [.int (zI 2)]
  refine v_iload X dL_law_869 871 rfl 1 rfl ?_
  refine v_icmp_eq X (by omega) (by omega) dL_law_871 874 876 rfl (by decide) (fun c_3 => ?_) (fun c_3 => ?_)
  · skip
    refine v_iload X dL_law_876 878 rfl 1 rfl ?_
    refine v_if_ne X (by omega) dL_law_878 881 893 rfl (by decide) (fun c_4 => ?_) (fun c_4 => ?_)
    · skip
      refine v_goto X dL_law_893 3555 (by decide) ?_
      refine v_widen (k' := kq + 60) (n' := nq + 4000) (by omega) (by omega) ?_
      exact V_pick [2, 3, 4, 5, 6, 7] rfl (kk _ _ hM ⟨hzl, _, _, _, _, _, _, _, _, _, _, _, _, _, _, _, _, _, _, _, _, _, _, _, _, _, _, _, _, ⟨h_cm, h_co, h_bf, h_sv, h_hi, h_hf, h_dk, h_se, h_pg, h_sb, h_sa, h_pr, h_ln, h_la, h_mo, h_out, h_outD⟩, hP0.mo_0⟩)
    · skip
      exfalso; omega
  · skip
    exfalso; omega
set_option maxHeartbeats 4000000 in
set_option maxRecDepth 20000 in
theorem lo_defendantOf (hl : l.stackTraces = false) (X : CF p m cd code 9 s args RL) (hX : va_X b Lx xs s s.heap) (hbl : b < s.heap.size) (hLx : Lx ≤ 2560) (hM : MS E [] s H lo) (hk : kq + 60 ≤ 603072) (hn : nq + 4000 ≤ 7211113) (hx : s.heap.size ≤ x) (hzl : x + 341 ≤ H.size) {v : Nat} {N : Nat} {f : Int → Int} {nn : Int} {v2 : Nat} {N2 : Nat} {f2 : Int → Int} {n2 : Int} {co : Nat → Int → Int} {bf : Nat → Int → Int} {cv : Nat → Int → Int} {hc : Nat → Nat → Int → Int} {nx : Int} {sz : Int} {hs : Int} {er : Int} {fa : Int} {ss : Int} {dk : Nat → Int → Int} {se : Nat → Int → Int} {po : Int} {si : Int} {pr : Nat → Int → Int} {ml : Int} {ml2 : Int} {mo : Nat → Int → Int} {lg : Nat → Int64} {dg : Nat → UInt64} (hW : LawW E x v N f nn v2 N2 f2 n2 co bf cv hc nx sz hs er fa ss dk se po si pr ml ml2 mo lg dg H) (hP : LawP x v N f nn v2 N2 f2 n2 co cv hc nx sz hs er fa ss po si pr mo) (i0 : 0 ≤ i) (i1 : i + 5 ≤ (Lx : Int)) {a1 : Int} (ha1 : (xs (i + 1).toNat).toInt = a1) (ga1 : Rg a1) (q0 : 0 ≤ a1 ∧ a1 < co 0 0) (kk : ∀ (H1 : Heap) (lo1 : List Loc), MS E [] s H1 lo1 → LawI E x H1 → V p l e room_1 s m args below meth cd Q 9 H1 lo1 (kq + 60) (nq + 4000) 3555 [(5, .int (zI i)), (4, .ref (x + 340)), (3, .ref (x + 339)), (2, .ref (x + 334)), (1, .ref x), (0, .ref b)] []) : V p l e room_1 s m args below meth cd Q 9 H lo kq nq 896 [(5, .int (zI i)), (4, .ref (x + 340)), (3, .ref (x + 339)), (2, .ref (x + 334)), (1, .ref x), (0, .ref b)] [] := by
  obtain ⟨h_cm, h_co, h_bf, h_sv, h_hi, h_hf, h_dk, h_se, h_pg, h_sb, h_sa, h_pr, h_ln, h_la, h_mo, h_out, h_outD⟩ := hW
  have hP0 := hP
  obtain ⟨⟨hD, hDv, hDh⟩, ⟨hRM, hch, hcs⟩, ⟨⟨n0, n1⟩, ⟨s0, s1⟩, hhs⟩, ⟨hm8, hnn, hAg, hNN, hnN, hf9⟩, ⟨T, hSB, hLT, hn38⟩, hPB, ⟨her, hfa, hss, ger, gfa, gss, gms⟩, ⟨gpo, gsi⟩, ⟨hv1, hv2, hvv⟩⟩ := hP
  have hO := hD.inv.ok
  have hI := hD.inv.ts
  have hSt := hD.inv.st
  have hS := hD.inv.sn
  have hR := hRM.1.2
  have hG := gp_inv hD
  have hb0 := hO.b0
  have hbw := hO.bw
  have hbf : ¬ Fr [] s.heap.size b := fun z => z.elim (fun q => q.elim) (fun q => by omega)
  refine v_aload_n X dL_law_896 897 rfl 4 rfl ?_
  refine v_aload_n X dL_law_897 898 rfl 5 rfl ?_
  refine v_iload X dL_law_898 900 rfl 0 rfl ?_
  refine v_iconst X dL_law_900 901 rfl ?_
  refine v_iadd X dL_law_901 902 rfl ?_
  refine v_scr X hM hX hbl hbf (by omega) (by omega) hLx ha1 dL_law_902 903 rfl ?_
  refine v_aload_n X dL_law_903 904 rfl 2 rfl ?_
  refine v_mwS X hM (w_X9_defendantOf l hl E x co hs er fa ss a1 (x + 339) lg hO ga1 q0 (by omega) (by omega)) kwL_defendantOf ksL_defendantOf kl_L_227 (As := [.ref x, .int (zI a1), .ref (x + 339)]) rfl rfl (rm_lawW rfl (by omega) (by omega)) dL_law_904 907 rfl (k' := kq + 1) (n' := nq + 6) rfl rfl (fsI (fun q q1 q2 => (Or.inr (by omega)))) ⟨h_cm, h_co, h_out⟩ (fun rv H1 lo1 hM hF hpo => ?_)
  obtain ⟨rfl, hw_0⟩ := hpo
  have h_out : PR E (x + 339) [(x + 339, .inl (E 102 4, 1, .inr (.inl (fun _ => zL (co 1 a1)))))] H1 := hw_0
  replace hzl := Nat.le_trans hzl hF.1
  replace h_cm := h_cm.kept hF 1 rfl (fsd (by omega))
  replace h_co := h_co.kept hF 28 rfl (fsd (by omega))
  replace h_bf := h_bf.kept hF 28 rfl (fsd (by omega))
  replace h_sv := h_sv.kept hF 28 rfl (fsd (by omega))
  replace h_hi := h_hi.kept hF 2 rfl (fsd (by omega))
  replace h_hf := h_hf.kept hF (fsd (by omega))
  replace h_dk := h_dk.kept hF 3 rfl (fsd (by omega))
  replace h_se := h_se.kept hF 5 rfl (fsd (by omega))
  replace h_pg := h_pg.kept hF 1 rfl (fsd (by omega))
  replace h_sb := h_sb.kept hF 1 rfl (fsd (by omega))
  replace h_sa := h_sa.kept hF 1 rfl (fsd (by omega))
  replace h_pr := h_pr.kept hF 10 rfl (fsd (by omega))
  replace h_ln := h_ln.kept hF 1 rfl (fsd (by omega))
  replace h_la := h_la.kept hF 1 rfl (fsd (by omega))
  replace h_mo := h_mo.kept hF 5 rfl (fsd (by omega))
  replace h_outD := h_outD.kept hF 1 rfl (fsd (by omega))
  show V p l e room_1 s m args below meth cd Q 9 H1 lo1 (kq + 1) (nq + 6) 907 [(5, .int (zI i)), (4, .ref (x + 340)), (3, .ref (x + 339)), (2, .ref (x + 334)), (1, .ref x), (0, .ref b)] [.int (zI 0)]
  refine v_istore X dL_law_907 909 rfl (by decide) (L' := [(6, .int (zI 0)), (5, .int (zI i)), (4, .ref (x + 340)), (3, .ref (x + 339)), (2, .ref (x + 334)), (1, .ref x), (0, .ref b)]) rfl ?_
  refine v_aload_n X dL_law_909 910 rfl 4 rfl ?_
  refine v_aload_n X dL_law_910 911 rfl 6 rfl ?_
  refine v_iload X dL_law_911 913 rfl 1 rfl ?_
  refine v_iconst X dL_law_913 914 rfl ?_
  refine v_iadd X dL_law_914 915 rfl ?_
  refine v_scr X hM hX hbl hbf (by omega) (by omega) hLx ha1 dL_law_915 916 rfl ?_
  refine v_muV X hM (h_mo.1) (c_X10_defendantOf l E (x + 334) mo co a1 hO hR ga1 q0) kvX10_defendantOf kiX10_defendantOf kl_L_229 (q0 := 0) rfl rfl (As := [.int (zI a1)]) rfl rfl (rm_law rfl (by omega) (by omega)) dL_law_916 919 rfl (k' := kq + 1) (n' := nq + 6) rfl rfl (fsI (fun q q1 q2 => (Or.inr (by omega)))) h_mo (fun rv H2 lo2 hM hF hpo => ?_)
  obtain ⟨rfl, hw_0⟩ := hpo
  have h_mo : PR E (x + 334) (modelW E (x + 334) (updC mo 0 (updZ (mo 0) 0 0))) H2 := hw_0
  replace hzl := Nat.le_trans hzl hF.1
  replace h_cm := h_cm.kept hF 1 rfl (fsd (by omega))
  replace h_co := h_co.kept hF 28 rfl (fsd (by omega))
  replace h_bf := h_bf.kept hF 28 rfl (fsd (by omega))
  replace h_sv := h_sv.kept hF 28 rfl (fsd (by omega))
  replace h_hi := h_hi.kept hF 2 rfl (fsd (by omega))
  replace h_hf := h_hf.kept hF (fsd (by omega))
  replace h_dk := h_dk.kept hF 3 rfl (fsd (by omega))
  replace h_se := h_se.kept hF 5 rfl (fsd (by omega))
  replace h_pg := h_pg.kept hF 1 rfl (fsd (by omega))
  replace h_sb := h_sb.kept hF 1 rfl (fsd (by omega))
  replace h_sa := h_sa.kept hF 1 rfl (fsd (by omega))
  replace h_pr := h_pr.kept hF 10 rfl (fsd (by omega))
  replace h_ln := h_ln.kept hF 1 rfl (fsd (by omega))
  replace h_la := h_la.kept hF 1 rfl (fsd (by omega))
  replace h_out := h_out.kept hF 1 rfl (fsd (by omega))
  replace h_outD := h_outD.kept hF 1 rfl (fsd (by omega))
  show V p l e room_1 s m args below meth cd Q 9 H2 lo2 (kq + 1) (nq + 6) 919 [(6, .int (zI 0)), (5, .int (zI i)), (4, .ref (x + 340)), (3, .ref (x + 339)), (2, .ref (x + 334)), (1, .ref x), (0, .ref b)] [.int (zI (co 1 a1))]
  refine v_istore X dL_law_919 921 rfl (by decide) (L' := [(7, .int (zI (co 1 a1))), (6, .int (zI 0)), (5, .int (zI i)), (4, .ref (x + 340)), (3, .ref (x + 339)), (2, .ref (x + 334)), (1, .ref x), (0, .ref b)]) rfl ?_
  refine v_aload_n X dL_law_921 922 rfl 5 rfl ?_
  refine v_rdV X hM.C h_mo.1 (c_X10_thrown l E (x + 334) (updC mo 0 (updZ (mo 0) 0 0))) kvX10_thrown kiX10_thrown kl_L_196 rfl rfl (As := []) rfl rfl (rm_law0 rfl (by omega) (by omega)) dL_law_922 925 rfl ?_
  show V p l e room_1 s m args below meth cd Q 9 H2 lo2 (kq + 1) (nq + 6) 925 [(7, .int (zI (co 1 a1))), (6, .int (zI 0)), (5, .int (zI i)), (4, .ref (x + 340)), (3, .ref (x + 339)), (2, .ref (x + 334)), (1, .ref x), (0, .ref b)] [.int (zI 0)]
  refine v_iload X dL_law_925 927 rfl 1 rfl ?_
  refine v_icmp_eq X (by omega) (by omega) dL_law_927 930 932 rfl (by decide) (fun c_3 => ?_) (fun c_3 => ?_)
  · skip
    refine v_iload X dL_law_932 934 rfl 1 rfl ?_
    refine v_if_ne X (by omega) dL_law_934 937 949 rfl (by decide) (fun c_4 => ?_) (fun c_4 => ?_)
    · skip
      exfalso; omega
    · skip
      refine v_aload_n X dL_law_937 938 rfl 4 rfl ?_
      refine v_iconst X dL_law_938 939 rfl ?_
      refine v_lald X hM.C h_out.1 0 rfl dL_law_939 940 rfl ?_
      show V p l e room_1 s m args below meth cd Q 9 H2 lo2 (kq + 1) (nq + 6) 940 [(7, .int (zI (co 1 a1))), (6, .int (zI 0)), (5, .int (zI i)), (4, .ref (x + 340)), (3, .ref (x + 339)), (2, .ref (x + 334)), (1, .ref x), (0, .ref b)] [.long (zL (co 1 a1))]
      refine v_iload X dL_law_940 942 rfl 0 rfl ?_
      refine v_i2l X dL_law_942 943 rfl ?_
      refine v_lcmp0 X dL_law_943 944 rfl ?_
      refine v_if_eq X (by omega) dL_law_944 947 949 rfl (by decide) (fun c_5 => ?_) (fun c_5 => ?_)
      · skip
        refine v_goto X dL_law_949 3555 (by decide) ?_
        refine v_widen (k' := kq + 60) (n' := nq + 4000) (by omega) (by omega) ?_
        exact V_pick [2, 3, 4, 5, 6, 7] rfl (kk _ _ hM ⟨hzl, _, _, _, _, _, _, _, _, _, _, _, _, _, _, _, _, _, _, _, _, _, _, _, _, _, _, _, _, ⟨h_cm, h_co, h_bf, h_sv, h_hi, h_hf, h_dk, h_se, h_pg, h_sb, h_sa, h_pr, h_ln, h_la, h_mo, h_out, h_outD⟩, hP0.mo_0⟩)
      · skip
        exfalso; omega
  · skip
    exfalso; omega
set_option maxHeartbeats 4000000 in
set_option maxRecDepth 20000 in
theorem lo_defendantOf_1 (hl : l.stackTraces = false) (X : CF p m cd code 9 s args RL) (hX : va_X b Lx xs s s.heap) (hbl : b < s.heap.size) (hLx : Lx ≤ 2560) (hM : MS E [] s H lo) (hk : kq + 60 ≤ 603072) (hn : nq + 4000 ≤ 7211113) (hx : s.heap.size ≤ x) (hzl : x + 341 ≤ H.size) {v : Nat} {N : Nat} {f : Int → Int} {nn : Int} {v2 : Nat} {N2 : Nat} {f2 : Int → Int} {n2 : Int} {co : Nat → Int → Int} {bf : Nat → Int → Int} {cv : Nat → Int → Int} {hc : Nat → Nat → Int → Int} {nx : Int} {sz : Int} {hs : Int} {er : Int} {fa : Int} {ss : Int} {dk : Nat → Int → Int} {se : Nat → Int → Int} {po : Int} {si : Int} {pr : Nat → Int → Int} {ml : Int} {ml2 : Int} {mo : Nat → Int → Int} {lg : Nat → Int64} {dg : Nat → UInt64} (hW : LawW E x v N f nn v2 N2 f2 n2 co bf cv hc nx sz hs er fa ss dk se po si pr ml ml2 mo lg dg H) (hP : LawP x v N f nn v2 N2 f2 n2 co cv hc nx sz hs er fa ss po si pr mo) (i0 : 0 ≤ i) (i1 : i + 5 ≤ (Lx : Int)) {a1 : Int} (ha1 : (xs (i + 1).toNat).toInt = a1) (ga1 : Rg a1) (q0 : ¬ (0 ≤ a1 ∧ a1 < co 0 0)) (kk : ∀ (H1 : Heap) (lo1 : List Loc), MS E [] s H1 lo1 → LawI E x H1 → V p l e room_1 s m args below meth cd Q 9 H1 lo1 (kq + 60) (nq + 4000) 3555 [(5, .int (zI i)), (4, .ref (x + 340)), (3, .ref (x + 339)), (2, .ref (x + 334)), (1, .ref x), (0, .ref b)] []) : V p l e room_1 s m args below meth cd Q 9 H lo kq nq 896 [(5, .int (zI i)), (4, .ref (x + 340)), (3, .ref (x + 339)), (2, .ref (x + 334)), (1, .ref x), (0, .ref b)] [] := by
  obtain ⟨h_cm, h_co, h_bf, h_sv, h_hi, h_hf, h_dk, h_se, h_pg, h_sb, h_sa, h_pr, h_ln, h_la, h_mo, h_out, h_outD⟩ := hW
  have hP0 := hP
  obtain ⟨⟨hD, hDv, hDh⟩, ⟨hRM, hch, hcs⟩, ⟨⟨n0, n1⟩, ⟨s0, s1⟩, hhs⟩, ⟨hm8, hnn, hAg, hNN, hnN, hf9⟩, ⟨T, hSB, hLT, hn38⟩, hPB, ⟨her, hfa, hss, ger, gfa, gss, gms⟩, ⟨gpo, gsi⟩, ⟨hv1, hv2, hvv⟩⟩ := hP
  have hO := hD.inv.ok
  have hI := hD.inv.ts
  have hSt := hD.inv.st
  have hS := hD.inv.sn
  have hR := hRM.1.2
  have hG := gp_inv hD
  have hb0 := hO.b0
  have hbw := hO.bw
  have hbf : ¬ Fr [] s.heap.size b := fun z => z.elim (fun q => q.elim) (fun q => by omega)
  refine v_aload_n X dL_law_896 897 rfl 4 rfl ?_
  refine v_aload_n X dL_law_897 898 rfl 5 rfl ?_
  refine v_iload X dL_law_898 900 rfl 0 rfl ?_
  refine v_iconst X dL_law_900 901 rfl ?_
  refine v_iadd X dL_law_901 902 rfl ?_
  refine v_scr X hM hX hbl hbf (by omega) (by omega) hLx ha1 dL_law_902 903 rfl ?_
  refine v_aload_n X dL_law_903 904 rfl 2 rfl ?_
  refine v_mwS X hM (w_X9_defendantOf_0_t l hl E x co hs er fa ss a1 (x + 339) lg hO ga1 q0) kwL_defendantOf ksL_defendantOf kl_L_227 (As := [.ref x, .int (zI a1), .ref (x + 339)]) rfl rfl (rm_lawW rfl (by omega) (by omega)) dL_law_904 907 rfl (k' := kq + 1) (n' := nq + 6) rfl rfl (fun q hq => hq.elim) ⟨h_cm, h_co, h_out⟩ (fun rv H1 lo1 hM hF hpo => ?_)
  subst hpo
  replace hzl := Nat.le_trans hzl hF.1
  replace h_cm := h_cm.kept hF 1 rfl (fun q _ _ h => h.elim)
  replace h_co := h_co.kept hF 28 rfl (fun q _ _ h => h.elim)
  replace h_bf := h_bf.kept hF 28 rfl (fun q _ _ h => h.elim)
  replace h_sv := h_sv.kept hF 28 rfl (fun q _ _ h => h.elim)
  replace h_hi := h_hi.kept hF 2 rfl (fun q _ _ h => h.elim)
  replace h_hf := h_hf.kept hF (fun q _ _ h => h.elim)
  replace h_dk := h_dk.kept hF 3 rfl (fun q _ _ h => h.elim)
  replace h_se := h_se.kept hF 5 rfl (fun q _ _ h => h.elim)
  replace h_pg := h_pg.kept hF 1 rfl (fun q _ _ h => h.elim)
  replace h_sb := h_sb.kept hF 1 rfl (fun q _ _ h => h.elim)
  replace h_sa := h_sa.kept hF 1 rfl (fun q _ _ h => h.elim)
  replace h_pr := h_pr.kept hF 10 rfl (fun q _ _ h => h.elim)
  replace h_ln := h_ln.kept hF 1 rfl (fun q _ _ h => h.elim)
  replace h_la := h_la.kept hF 1 rfl (fun q _ _ h => h.elim)
  replace h_mo := h_mo.kept hF 5 rfl (fun q _ _ h => h.elim)
  replace h_out := h_out.kept hF 1 rfl (fun q _ _ h => h.elim)
  replace h_outD := h_outD.kept hF 1 rfl (fun q _ _ h => h.elim)
  show V p l e room_1 s m args below meth cd Q 9 H1 lo1 (kq + 1) (nq + 6) 907 [(5, .int (zI i)), (4, .ref (x + 340)), (3, .ref (x + 339)), (2, .ref (x + 334)), (1, .ref x), (0, .ref b)] [.int (zI 1)]
  refine v_istore X dL_law_907 909 rfl (by decide) (L' := [(6, .int (zI 1)), (5, .int (zI i)), (4, .ref (x + 340)), (3, .ref (x + 339)), (2, .ref (x + 334)), (1, .ref x), (0, .ref b)]) rfl ?_
  refine v_aload_n X dL_law_909 910 rfl 4 rfl ?_
  refine v_aload_n X dL_law_910 911 rfl 6 rfl ?_
  refine v_iload X dL_law_911 913 rfl 1 rfl ?_
  refine v_iconst X dL_law_913 914 rfl ?_
  refine v_iadd X dL_law_914 915 rfl ?_
  refine v_scr X hM hX hbl hbf (by omega) (by omega) hLx ha1 dL_law_915 916 rfl ?_
  refine v_muV X hM (h_mo.1) (c_X10_defendantOf_0 l E (x + 334) mo co a1 hO hR ga1 q0) kvX10_defendantOf kiX10_defendantOf kl_L_229 (q0 := 0) rfl rfl (As := [.int (zI a1)]) rfl rfl (rm_law rfl (by omega) (by omega)) dL_law_916 919 rfl (k' := kq + 1) (n' := nq + 6) rfl rfl (fsI (fun q q1 q2 => (Or.inr (by omega)))) h_mo (fun rv H2 lo2 hM hF hpo => ?_)
  obtain ⟨rfl, hw_0⟩ := hpo
  have h_mo : PR E (x + 334) (modelW E (x + 334) (updC mo 0 (updZ (mo 0) 0 1))) H2 := hw_0
  replace hzl := Nat.le_trans hzl hF.1
  replace h_cm := h_cm.kept hF 1 rfl (fsd (by omega))
  replace h_co := h_co.kept hF 28 rfl (fsd (by omega))
  replace h_bf := h_bf.kept hF 28 rfl (fsd (by omega))
  replace h_sv := h_sv.kept hF 28 rfl (fsd (by omega))
  replace h_hi := h_hi.kept hF 2 rfl (fsd (by omega))
  replace h_hf := h_hf.kept hF (fsd (by omega))
  replace h_dk := h_dk.kept hF 3 rfl (fsd (by omega))
  replace h_se := h_se.kept hF 5 rfl (fsd (by omega))
  replace h_pg := h_pg.kept hF 1 rfl (fsd (by omega))
  replace h_sb := h_sb.kept hF 1 rfl (fsd (by omega))
  replace h_sa := h_sa.kept hF 1 rfl (fsd (by omega))
  replace h_pr := h_pr.kept hF 10 rfl (fsd (by omega))
  replace h_ln := h_ln.kept hF 1 rfl (fsd (by omega))
  replace h_la := h_la.kept hF 1 rfl (fsd (by omega))
  replace h_out := h_out.kept hF 1 rfl (fsd (by omega))
  replace h_outD := h_outD.kept hF 1 rfl (fsd (by omega))
  show V p l e room_1 s m args below meth cd Q 9 H2 lo2 (kq + 1) (nq + 6) 919 [(6, .int (zI 1)), (5, .int (zI i)), (4, .ref (x + 340)), (3, .ref (x + 339)), (2, .ref (x + 334)), (1, .ref x), (0, .ref b)] [.int (zI 0)]
  refine v_istore X dL_law_919 921 rfl (by decide) (L' := [(7, .int (zI 0)), (6, .int (zI 1)), (5, .int (zI i)), (4, .ref (x + 340)), (3, .ref (x + 339)), (2, .ref (x + 334)), (1, .ref x), (0, .ref b)]) rfl ?_
  refine v_aload_n X dL_law_921 922 rfl 5 rfl ?_
  refine v_rdV X hM.C h_mo.1 (c_X10_thrown l E (x + 334) (updC mo 0 (updZ (mo 0) 0 1))) kvX10_thrown kiX10_thrown kl_L_196 rfl rfl (As := []) rfl rfl (rm_law0 rfl (by omega) (by omega)) dL_law_922 925 rfl ?_
  show V p l e room_1 s m args below meth cd Q 9 H2 lo2 (kq + 1) (nq + 6) 925 [(7, .int (zI 0)), (6, .int (zI 1)), (5, .int (zI i)), (4, .ref (x + 340)), (3, .ref (x + 339)), (2, .ref (x + 334)), (1, .ref x), (0, .ref b)] [.int (zI 1)]
  refine v_iload X dL_law_925 927 rfl 1 rfl ?_
  refine v_icmp_eq X (by omega) (by omega) dL_law_927 930 932 rfl (by decide) (fun c_3 => ?_) (fun c_3 => ?_)
  · skip
    refine v_iload X dL_law_932 934 rfl 1 rfl ?_
    refine v_if_ne X (by omega) dL_law_934 937 949 rfl (by decide) (fun c_4 => ?_) (fun c_4 => ?_)
    · skip
      refine v_goto X dL_law_949 3555 (by decide) ?_
      refine v_widen (k' := kq + 60) (n' := nq + 4000) (by omega) (by omega) ?_
      exact V_pick [2, 3, 4, 5, 6, 7] rfl (kk _ _ hM ⟨hzl, _, _, _, _, _, _, _, _, _, _, _, _, _, _, _, _, _, _, _, _, _, _, _, _, _, _, _, _, ⟨h_cm, h_co, h_bf, h_sv, h_hi, h_hf, h_dk, h_se, h_pg, h_sb, h_sa, h_pr, h_ln, h_la, h_mo, h_out, h_outD⟩, hP0.mo_0⟩)
    · skip
      exfalso; omega
  · skip
    exfalso; omega
set_option maxHeartbeats 4000000 in
set_option maxRecDepth 20000 in
theorem lo_offenceOf (hl : l.stackTraces = false) (X : CF p m cd code 9 s args RL) (hX : va_X b Lx xs s s.heap) (hbl : b < s.heap.size) (hLx : Lx ≤ 2560) (hM : MS E [] s H lo) (hk : kq + 60 ≤ 603072) (hn : nq + 4000 ≤ 7211113) (hx : s.heap.size ≤ x) (hzl : x + 341 ≤ H.size) {v : Nat} {N : Nat} {f : Int → Int} {nn : Int} {v2 : Nat} {N2 : Nat} {f2 : Int → Int} {n2 : Int} {co : Nat → Int → Int} {bf : Nat → Int → Int} {cv : Nat → Int → Int} {hc : Nat → Nat → Int → Int} {nx : Int} {sz : Int} {hs : Int} {er : Int} {fa : Int} {ss : Int} {dk : Nat → Int → Int} {se : Nat → Int → Int} {po : Int} {si : Int} {pr : Nat → Int → Int} {ml : Int} {ml2 : Int} {mo : Nat → Int → Int} {lg : Nat → Int64} {dg : Nat → UInt64} (hW : LawW E x v N f nn v2 N2 f2 n2 co bf cv hc nx sz hs er fa ss dk se po si pr ml ml2 mo lg dg H) (hP : LawP x v N f nn v2 N2 f2 n2 co cv hc nx sz hs er fa ss po si pr mo) (i0 : 0 ≤ i) (i1 : i + 5 ≤ (Lx : Int)) {a1 : Int} (ha1 : (xs (i + 1).toNat).toInt = a1) (ga1 : Rg a1) (q0 : 0 ≤ a1 ∧ a1 < co 0 0) (kk : ∀ (H1 : Heap) (lo1 : List Loc), MS E [] s H1 lo1 → LawI E x H1 → V p l e room_1 s m args below meth cd Q 9 H1 lo1 (kq + 60) (nq + 4000) 3555 [(5, .int (zI i)), (4, .ref (x + 340)), (3, .ref (x + 339)), (2, .ref (x + 334)), (1, .ref x), (0, .ref b)] []) : V p l e room_1 s m args below meth cd Q 9 H lo kq nq 952 [(5, .int (zI i)), (4, .ref (x + 340)), (3, .ref (x + 339)), (2, .ref (x + 334)), (1, .ref x), (0, .ref b)] [] := by
  obtain ⟨h_cm, h_co, h_bf, h_sv, h_hi, h_hf, h_dk, h_se, h_pg, h_sb, h_sa, h_pr, h_ln, h_la, h_mo, h_out, h_outD⟩ := hW
  have hP0 := hP
  obtain ⟨⟨hD, hDv, hDh⟩, ⟨hRM, hch, hcs⟩, ⟨⟨n0, n1⟩, ⟨s0, s1⟩, hhs⟩, ⟨hm8, hnn, hAg, hNN, hnN, hf9⟩, ⟨T, hSB, hLT, hn38⟩, hPB, ⟨her, hfa, hss, ger, gfa, gss, gms⟩, ⟨gpo, gsi⟩, ⟨hv1, hv2, hvv⟩⟩ := hP
  have hO := hD.inv.ok
  have hI := hD.inv.ts
  have hSt := hD.inv.st
  have hS := hD.inv.sn
  have hR := hRM.1.2
  have hG := gp_inv hD
  have hb0 := hO.b0
  have hbw := hO.bw
  have hbf : ¬ Fr [] s.heap.size b := fun z => z.elim (fun q => q.elim) (fun q => by omega)
  refine v_aload_n X dL_law_952 953 rfl 4 rfl ?_
  refine v_aload_n X dL_law_953 954 rfl 5 rfl ?_
  refine v_iload X dL_law_954 956 rfl 0 rfl ?_
  refine v_iconst X dL_law_956 957 rfl ?_
  refine v_iadd X dL_law_957 958 rfl ?_
  refine v_scr X hM hX hbl hbf (by omega) (by omega) hLx ha1 dL_law_958 959 rfl ?_
  refine v_aload_n X dL_law_959 960 rfl 2 rfl ?_
  refine v_mwS X hM (w_X9_offenceOf l hl E x co hs er fa ss a1 (x + 339) lg hO ga1 q0 (by omega) (by omega)) kwL_offenceOf ksL_offenceOf kl_L_230 (As := [.ref x, .int (zI a1), .ref (x + 339)]) rfl rfl (rm_lawW rfl (by omega) (by omega)) dL_law_960 963 rfl (k' := kq + 1) (n' := nq + 6) rfl rfl (fsI (fun q q1 q2 => (Or.inr (by omega)))) ⟨h_cm, h_co, h_out⟩ (fun rv H1 lo1 hM hF hpo => ?_)
  obtain ⟨rfl, hw_0⟩ := hpo
  have h_out : PR E (x + 339) [(x + 339, .inl (E 102 4, 1, .inr (.inl (fun _ => zL (co 2 a1)))))] H1 := hw_0
  replace hzl := Nat.le_trans hzl hF.1
  replace h_cm := h_cm.kept hF 1 rfl (fsd (by omega))
  replace h_co := h_co.kept hF 28 rfl (fsd (by omega))
  replace h_bf := h_bf.kept hF 28 rfl (fsd (by omega))
  replace h_sv := h_sv.kept hF 28 rfl (fsd (by omega))
  replace h_hi := h_hi.kept hF 2 rfl (fsd (by omega))
  replace h_hf := h_hf.kept hF (fsd (by omega))
  replace h_dk := h_dk.kept hF 3 rfl (fsd (by omega))
  replace h_se := h_se.kept hF 5 rfl (fsd (by omega))
  replace h_pg := h_pg.kept hF 1 rfl (fsd (by omega))
  replace h_sb := h_sb.kept hF 1 rfl (fsd (by omega))
  replace h_sa := h_sa.kept hF 1 rfl (fsd (by omega))
  replace h_pr := h_pr.kept hF 10 rfl (fsd (by omega))
  replace h_ln := h_ln.kept hF 1 rfl (fsd (by omega))
  replace h_la := h_la.kept hF 1 rfl (fsd (by omega))
  replace h_mo := h_mo.kept hF 5 rfl (fsd (by omega))
  replace h_outD := h_outD.kept hF 1 rfl (fsd (by omega))
  show V p l e room_1 s m args below meth cd Q 9 H1 lo1 (kq + 1) (nq + 6) 963 [(5, .int (zI i)), (4, .ref (x + 340)), (3, .ref (x + 339)), (2, .ref (x + 334)), (1, .ref x), (0, .ref b)] [.int (zI 0)]
  refine v_istore X dL_law_963 965 rfl (by decide) (L' := [(6, .int (zI 0)), (5, .int (zI i)), (4, .ref (x + 340)), (3, .ref (x + 339)), (2, .ref (x + 334)), (1, .ref x), (0, .ref b)]) rfl ?_
  refine v_aload_n X dL_law_965 966 rfl 4 rfl ?_
  refine v_aload_n X dL_law_966 967 rfl 6 rfl ?_
  refine v_iload X dL_law_967 969 rfl 1 rfl ?_
  refine v_iconst X dL_law_969 970 rfl ?_
  refine v_iadd X dL_law_970 971 rfl ?_
  refine v_scr X hM hX hbl hbf (by omega) (by omega) hLx ha1 dL_law_971 972 rfl ?_
  refine v_muV X hM (h_mo.1) (c_X10_offenceOf l E (x + 334) mo co a1 hO hR ga1 q0) kvX10_offenceOf kiX10_offenceOf kl_L_232 (q0 := 0) rfl rfl (As := [.int (zI a1)]) rfl rfl (rm_law rfl (by omega) (by omega)) dL_law_972 975 rfl (k' := kq + 1) (n' := nq + 6) rfl rfl (fsI (fun q q1 q2 => (Or.inr (by omega)))) h_mo (fun rv H2 lo2 hM hF hpo => ?_)
  obtain ⟨rfl, hw_0⟩ := hpo
  have h_mo : PR E (x + 334) (modelW E (x + 334) (updC mo 0 (updZ (mo 0) 0 0))) H2 := hw_0
  replace hzl := Nat.le_trans hzl hF.1
  replace h_cm := h_cm.kept hF 1 rfl (fsd (by omega))
  replace h_co := h_co.kept hF 28 rfl (fsd (by omega))
  replace h_bf := h_bf.kept hF 28 rfl (fsd (by omega))
  replace h_sv := h_sv.kept hF 28 rfl (fsd (by omega))
  replace h_hi := h_hi.kept hF 2 rfl (fsd (by omega))
  replace h_hf := h_hf.kept hF (fsd (by omega))
  replace h_dk := h_dk.kept hF 3 rfl (fsd (by omega))
  replace h_se := h_se.kept hF 5 rfl (fsd (by omega))
  replace h_pg := h_pg.kept hF 1 rfl (fsd (by omega))
  replace h_sb := h_sb.kept hF 1 rfl (fsd (by omega))
  replace h_sa := h_sa.kept hF 1 rfl (fsd (by omega))
  replace h_pr := h_pr.kept hF 10 rfl (fsd (by omega))
  replace h_ln := h_ln.kept hF 1 rfl (fsd (by omega))
  replace h_la := h_la.kept hF 1 rfl (fsd (by omega))
  replace h_out := h_out.kept hF 1 rfl (fsd (by omega))
  replace h_outD := h_outD.kept hF 1 rfl (fsd (by omega))
  show V p l e room_1 s m args below meth cd Q 9 H2 lo2 (kq + 1) (nq + 6) 975 [(6, .int (zI 0)), (5, .int (zI i)), (4, .ref (x + 340)), (3, .ref (x + 339)), (2, .ref (x + 334)), (1, .ref x), (0, .ref b)] [.int (zI (co 2 a1))]
  refine v_istore X dL_law_975 977 rfl (by decide) (L' := [(7, .int (zI (co 2 a1))), (6, .int (zI 0)), (5, .int (zI i)), (4, .ref (x + 340)), (3, .ref (x + 339)), (2, .ref (x + 334)), (1, .ref x), (0, .ref b)]) rfl ?_
  refine v_aload_n X dL_law_977 978 rfl 5 rfl ?_
  refine v_rdV X hM.C h_mo.1 (c_X10_thrown l E (x + 334) (updC mo 0 (updZ (mo 0) 0 0))) kvX10_thrown kiX10_thrown kl_L_196 rfl rfl (As := []) rfl rfl (rm_law0 rfl (by omega) (by omega)) dL_law_978 981 rfl ?_
  show V p l e room_1 s m args below meth cd Q 9 H2 lo2 (kq + 1) (nq + 6) 981 [(7, .int (zI (co 2 a1))), (6, .int (zI 0)), (5, .int (zI i)), (4, .ref (x + 340)), (3, .ref (x + 339)), (2, .ref (x + 334)), (1, .ref x), (0, .ref b)] [.int (zI 0)]
  refine v_iload X dL_law_981 983 rfl 1 rfl ?_
  refine v_icmp_eq X (by omega) (by omega) dL_law_983 986 988 rfl (by decide) (fun c_3 => ?_) (fun c_3 => ?_)
  · skip
    refine v_iload X dL_law_988 990 rfl 1 rfl ?_
    refine v_if_ne X (by omega) dL_law_990 993 1005 rfl (by decide) (fun c_4 => ?_) (fun c_4 => ?_)
    · skip
      exfalso; omega
    · skip
      refine v_aload_n X dL_law_993 994 rfl 4 rfl ?_
      refine v_iconst X dL_law_994 995 rfl ?_
      refine v_lald X hM.C h_out.1 0 rfl dL_law_995 996 rfl ?_
      show V p l e room_1 s m args below meth cd Q 9 H2 lo2 (kq + 1) (nq + 6) 996 [(7, .int (zI (co 2 a1))), (6, .int (zI 0)), (5, .int (zI i)), (4, .ref (x + 340)), (3, .ref (x + 339)), (2, .ref (x + 334)), (1, .ref x), (0, .ref b)] [.long (zL (co 2 a1))]
      refine v_iload X dL_law_996 998 rfl 0 rfl ?_
      refine v_i2l X dL_law_998 999 rfl ?_
      refine v_lcmp0 X dL_law_999 1000 rfl ?_
      refine v_if_eq X (by omega) dL_law_1000 1003 1005 rfl (by decide) (fun c_5 => ?_) (fun c_5 => ?_)
      · skip
        refine v_goto X dL_law_1005 3555 (by decide) ?_
        refine v_widen (k' := kq + 60) (n' := nq + 4000) (by omega) (by omega) ?_
        exact V_pick [2, 3, 4, 5, 6, 7] rfl (kk _ _ hM ⟨hzl, _, _, _, _, _, _, _, _, _, _, _, _, _, _, _, _, _, _, _, _, _, _, _, _, _, _, _, _, ⟨h_cm, h_co, h_bf, h_sv, h_hi, h_hf, h_dk, h_se, h_pg, h_sb, h_sa, h_pr, h_ln, h_la, h_mo, h_out, h_outD⟩, hP0.mo_0⟩)
      · skip
        exfalso; omega
  · skip
    exfalso; omega
set_option maxHeartbeats 4000000 in
set_option maxRecDepth 20000 in
theorem lo_offenceOf_1 (hl : l.stackTraces = false) (X : CF p m cd code 9 s args RL) (hX : va_X b Lx xs s s.heap) (hbl : b < s.heap.size) (hLx : Lx ≤ 2560) (hM : MS E [] s H lo) (hk : kq + 60 ≤ 603072) (hn : nq + 4000 ≤ 7211113) (hx : s.heap.size ≤ x) (hzl : x + 341 ≤ H.size) {v : Nat} {N : Nat} {f : Int → Int} {nn : Int} {v2 : Nat} {N2 : Nat} {f2 : Int → Int} {n2 : Int} {co : Nat → Int → Int} {bf : Nat → Int → Int} {cv : Nat → Int → Int} {hc : Nat → Nat → Int → Int} {nx : Int} {sz : Int} {hs : Int} {er : Int} {fa : Int} {ss : Int} {dk : Nat → Int → Int} {se : Nat → Int → Int} {po : Int} {si : Int} {pr : Nat → Int → Int} {ml : Int} {ml2 : Int} {mo : Nat → Int → Int} {lg : Nat → Int64} {dg : Nat → UInt64} (hW : LawW E x v N f nn v2 N2 f2 n2 co bf cv hc nx sz hs er fa ss dk se po si pr ml ml2 mo lg dg H) (hP : LawP x v N f nn v2 N2 f2 n2 co cv hc nx sz hs er fa ss po si pr mo) (i0 : 0 ≤ i) (i1 : i + 5 ≤ (Lx : Int)) {a1 : Int} (ha1 : (xs (i + 1).toNat).toInt = a1) (ga1 : Rg a1) (q0 : ¬ (0 ≤ a1 ∧ a1 < co 0 0)) (kk : ∀ (H1 : Heap) (lo1 : List Loc), MS E [] s H1 lo1 → LawI E x H1 → V p l e room_1 s m args below meth cd Q 9 H1 lo1 (kq + 60) (nq + 4000) 3555 [(5, .int (zI i)), (4, .ref (x + 340)), (3, .ref (x + 339)), (2, .ref (x + 334)), (1, .ref x), (0, .ref b)] []) : V p l e room_1 s m args below meth cd Q 9 H lo kq nq 952 [(5, .int (zI i)), (4, .ref (x + 340)), (3, .ref (x + 339)), (2, .ref (x + 334)), (1, .ref x), (0, .ref b)] [] := by
  obtain ⟨h_cm, h_co, h_bf, h_sv, h_hi, h_hf, h_dk, h_se, h_pg, h_sb, h_sa, h_pr, h_ln, h_la, h_mo, h_out, h_outD⟩ := hW
  have hP0 := hP
  obtain ⟨⟨hD, hDv, hDh⟩, ⟨hRM, hch, hcs⟩, ⟨⟨n0, n1⟩, ⟨s0, s1⟩, hhs⟩, ⟨hm8, hnn, hAg, hNN, hnN, hf9⟩, ⟨T, hSB, hLT, hn38⟩, hPB, ⟨her, hfa, hss, ger, gfa, gss, gms⟩, ⟨gpo, gsi⟩, ⟨hv1, hv2, hvv⟩⟩ := hP
  have hO := hD.inv.ok
  have hI := hD.inv.ts
  have hSt := hD.inv.st
  have hS := hD.inv.sn
  have hR := hRM.1.2
  have hG := gp_inv hD
  have hb0 := hO.b0
  have hbw := hO.bw
  have hbf : ¬ Fr [] s.heap.size b := fun z => z.elim (fun q => q.elim) (fun q => by omega)
  refine v_aload_n X dL_law_952 953 rfl 4 rfl ?_
  refine v_aload_n X dL_law_953 954 rfl 5 rfl ?_
  refine v_iload X dL_law_954 956 rfl 0 rfl ?_
  refine v_iconst X dL_law_956 957 rfl ?_
  refine v_iadd X dL_law_957 958 rfl ?_
  refine v_scr X hM hX hbl hbf (by omega) (by omega) hLx ha1 dL_law_958 959 rfl ?_
  refine v_aload_n X dL_law_959 960 rfl 2 rfl ?_
  refine v_mwS X hM (w_X9_offenceOf_0_t l hl E x co hs er fa ss a1 (x + 339) lg hO ga1 q0) kwL_offenceOf ksL_offenceOf kl_L_230 (As := [.ref x, .int (zI a1), .ref (x + 339)]) rfl rfl (rm_lawW rfl (by omega) (by omega)) dL_law_960 963 rfl (k' := kq + 1) (n' := nq + 6) rfl rfl (fun q hq => hq.elim) ⟨h_cm, h_co, h_out⟩ (fun rv H1 lo1 hM hF hpo => ?_)
  subst hpo
  replace hzl := Nat.le_trans hzl hF.1
  replace h_cm := h_cm.kept hF 1 rfl (fun q _ _ h => h.elim)
  replace h_co := h_co.kept hF 28 rfl (fun q _ _ h => h.elim)
  replace h_bf := h_bf.kept hF 28 rfl (fun q _ _ h => h.elim)
  replace h_sv := h_sv.kept hF 28 rfl (fun q _ _ h => h.elim)
  replace h_hi := h_hi.kept hF 2 rfl (fun q _ _ h => h.elim)
  replace h_hf := h_hf.kept hF (fun q _ _ h => h.elim)
  replace h_dk := h_dk.kept hF 3 rfl (fun q _ _ h => h.elim)
  replace h_se := h_se.kept hF 5 rfl (fun q _ _ h => h.elim)
  replace h_pg := h_pg.kept hF 1 rfl (fun q _ _ h => h.elim)
  replace h_sb := h_sb.kept hF 1 rfl (fun q _ _ h => h.elim)
  replace h_sa := h_sa.kept hF 1 rfl (fun q _ _ h => h.elim)
  replace h_pr := h_pr.kept hF 10 rfl (fun q _ _ h => h.elim)
  replace h_ln := h_ln.kept hF 1 rfl (fun q _ _ h => h.elim)
  replace h_la := h_la.kept hF 1 rfl (fun q _ _ h => h.elim)
  replace h_mo := h_mo.kept hF 5 rfl (fun q _ _ h => h.elim)
  replace h_out := h_out.kept hF 1 rfl (fun q _ _ h => h.elim)
  replace h_outD := h_outD.kept hF 1 rfl (fun q _ _ h => h.elim)
  show V p l e room_1 s m args below meth cd Q 9 H1 lo1 (kq + 1) (nq + 6) 963 [(5, .int (zI i)), (4, .ref (x + 340)), (3, .ref (x + 339)), (2, .ref (x + 334)), (1, .ref x), (0, .ref b)] [.int (zI 1)]
  refine v_istore X dL_law_963 965 rfl (by decide) (L' := [(6, .int (zI 1)), (5, .int (zI i)), (4, .ref (x + 340)), (3, .ref (x + 339)), (2, .ref (x + 334)), (1, .ref x), (0, .ref b)]) rfl ?_
  refine v_aload_n X dL_law_965 966 rfl 4 rfl ?_
  refine v_aload_n X dL_law_966 967 rfl 6 rfl ?_
  refine v_iload X dL_law_967 969 rfl 1 rfl ?_
  refine v_iconst X dL_law_969 970 rfl ?_
  refine v_iadd X dL_law_970 971 rfl ?_
  refine v_scr X hM hX hbl hbf (by omega) (by omega) hLx ha1 dL_law_971 972 rfl ?_
  refine v_muV X hM (h_mo.1) (c_X10_offenceOf_0 l E (x + 334) mo co a1 hO hR ga1 q0) kvX10_offenceOf kiX10_offenceOf kl_L_232 (q0 := 0) rfl rfl (As := [.int (zI a1)]) rfl rfl (rm_law rfl (by omega) (by omega)) dL_law_972 975 rfl (k' := kq + 1) (n' := nq + 6) rfl rfl (fsI (fun q q1 q2 => (Or.inr (by omega)))) h_mo (fun rv H2 lo2 hM hF hpo => ?_)
  obtain ⟨rfl, hw_0⟩ := hpo
  have h_mo : PR E (x + 334) (modelW E (x + 334) (updC mo 0 (updZ (mo 0) 0 1))) H2 := hw_0
  replace hzl := Nat.le_trans hzl hF.1
  replace h_cm := h_cm.kept hF 1 rfl (fsd (by omega))
  replace h_co := h_co.kept hF 28 rfl (fsd (by omega))
  replace h_bf := h_bf.kept hF 28 rfl (fsd (by omega))
  replace h_sv := h_sv.kept hF 28 rfl (fsd (by omega))
  replace h_hi := h_hi.kept hF 2 rfl (fsd (by omega))
  replace h_hf := h_hf.kept hF (fsd (by omega))
  replace h_dk := h_dk.kept hF 3 rfl (fsd (by omega))
  replace h_se := h_se.kept hF 5 rfl (fsd (by omega))
  replace h_pg := h_pg.kept hF 1 rfl (fsd (by omega))
  replace h_sb := h_sb.kept hF 1 rfl (fsd (by omega))
  replace h_sa := h_sa.kept hF 1 rfl (fsd (by omega))
  replace h_pr := h_pr.kept hF 10 rfl (fsd (by omega))
  replace h_ln := h_ln.kept hF 1 rfl (fsd (by omega))
  replace h_la := h_la.kept hF 1 rfl (fsd (by omega))
  replace h_out := h_out.kept hF 1 rfl (fsd (by omega))
  replace h_outD := h_outD.kept hF 1 rfl (fsd (by omega))
  show V p l e room_1 s m args below meth cd Q 9 H2 lo2 (kq + 1) (nq + 6) 975 [(6, .int (zI 1)), (5, .int (zI i)), (4, .ref (x + 340)), (3, .ref (x + 339)), (2, .ref (x + 334)), (1, .ref x), (0, .ref b)] [.int (zI 0)]
  refine v_istore X dL_law_975 977 rfl (by decide) (L' := [(7, .int (zI 0)), (6, .int (zI 1)), (5, .int (zI i)), (4, .ref (x + 340)), (3, .ref (x + 339)), (2, .ref (x + 334)), (1, .ref x), (0, .ref b)]) rfl ?_
  refine v_aload_n X dL_law_977 978 rfl 5 rfl ?_
  refine v_rdV X hM.C h_mo.1 (c_X10_thrown l E (x + 334) (updC mo 0 (updZ (mo 0) 0 1))) kvX10_thrown kiX10_thrown kl_L_196 rfl rfl (As := []) rfl rfl (rm_law0 rfl (by omega) (by omega)) dL_law_978 981 rfl ?_
  show V p l e room_1 s m args below meth cd Q 9 H2 lo2 (kq + 1) (nq + 6) 981 [(7, .int (zI 0)), (6, .int (zI 1)), (5, .int (zI i)), (4, .ref (x + 340)), (3, .ref (x + 339)), (2, .ref (x + 334)), (1, .ref x), (0, .ref b)] [.int (zI 1)]
  refine v_iload X dL_law_981 983 rfl 1 rfl ?_
  refine v_icmp_eq X (by omega) (by omega) dL_law_983 986 988 rfl (by decide) (fun c_3 => ?_) (fun c_3 => ?_)
  · skip
    refine v_iload X dL_law_988 990 rfl 1 rfl ?_
    refine v_if_ne X (by omega) dL_law_990 993 1005 rfl (by decide) (fun c_4 => ?_) (fun c_4 => ?_)
    · skip
      refine v_goto X dL_law_1005 3555 (by decide) ?_
      refine v_widen (k' := kq + 60) (n' := nq + 4000) (by omega) (by omega) ?_
      exact V_pick [2, 3, 4, 5, 6, 7] rfl (kk _ _ hM ⟨hzl, _, _, _, _, _, _, _, _, _, _, _, _, _, _, _, _, _, _, _, _, _, _, _, _, _, _, _, _, ⟨h_cm, h_co, h_bf, h_sv, h_hi, h_hf, h_dk, h_se, h_pg, h_sb, h_sa, h_pr, h_ln, h_la, h_mo, h_out, h_outD⟩, hP0.mo_0⟩)
    · skip
      exfalso; omega
  · skip
    exfalso; omega
set_option maxHeartbeats 4000000 in
set_option maxRecDepth 20000 in
theorem lo_isOpen (hl : l.stackTraces = false) (X : CF p m cd code 9 s args RL) (hX : va_X b Lx xs s s.heap) (hbl : b < s.heap.size) (hLx : Lx ≤ 2560) (hM : MS E [] s H lo) (hk : kq + 60 ≤ 603072) (hn : nq + 4000 ≤ 7211113) (hx : s.heap.size ≤ x) (hzl : x + 341 ≤ H.size) {v : Nat} {N : Nat} {f : Int → Int} {nn : Int} {v2 : Nat} {N2 : Nat} {f2 : Int → Int} {n2 : Int} {co : Nat → Int → Int} {bf : Nat → Int → Int} {cv : Nat → Int → Int} {hc : Nat → Nat → Int → Int} {nx : Int} {sz : Int} {hs : Int} {er : Int} {fa : Int} {ss : Int} {dk : Nat → Int → Int} {se : Nat → Int → Int} {po : Int} {si : Int} {pr : Nat → Int → Int} {ml : Int} {ml2 : Int} {mo : Nat → Int → Int} {lg : Nat → Int64} {dg : Nat → UInt64} (hW : LawW E x v N f nn v2 N2 f2 n2 co bf cv hc nx sz hs er fa ss dk se po si pr ml ml2 mo lg dg H) (hP : LawP x v N f nn v2 N2 f2 n2 co cv hc nx sz hs er fa ss po si pr mo) (i0 : 0 ≤ i) (i1 : i + 5 ≤ (Lx : Int)) {a1 : Int} (ha1 : (xs (i + 1).toNat).toInt = a1) (ga1 : Rg a1) (q0 : 0 ≤ a1 ∧ a1 < co 0 0) (kk : ∀ (H1 : Heap) (lo1 : List Loc), MS E [] s H1 lo1 → LawI E x H1 → V p l e room_1 s m args below meth cd Q 9 H1 lo1 (kq + 60) (nq + 4000) 3555 [(5, .int (zI i)), (4, .ref (x + 340)), (3, .ref (x + 339)), (2, .ref (x + 334)), (1, .ref x), (0, .ref b)] []) : V p l e room_1 s m args below meth cd Q 9 H lo kq nq 1008 [(5, .int (zI i)), (4, .ref (x + 340)), (3, .ref (x + 339)), (2, .ref (x + 334)), (1, .ref x), (0, .ref b)] [] := by
  obtain ⟨h_cm, h_co, h_bf, h_sv, h_hi, h_hf, h_dk, h_se, h_pg, h_sb, h_sa, h_pr, h_ln, h_la, h_mo, h_out, h_outD⟩ := hW
  have hP0 := hP
  obtain ⟨⟨hD, hDv, hDh⟩, ⟨hRM, hch, hcs⟩, ⟨⟨n0, n1⟩, ⟨s0, s1⟩, hhs⟩, ⟨hm8, hnn, hAg, hNN, hnN, hf9⟩, ⟨T, hSB, hLT, hn38⟩, hPB, ⟨her, hfa, hss, ger, gfa, gss, gms⟩, ⟨gpo, gsi⟩, ⟨hv1, hv2, hvv⟩⟩ := hP
  have hO := hD.inv.ok
  have hI := hD.inv.ts
  have hSt := hD.inv.st
  have hS := hD.inv.sn
  have hR := hRM.1.2
  have hG := gp_inv hD
  have hb0 := hO.b0
  have hbw := hO.bw
  have hbf : ¬ Fr [] s.heap.size b := fun z => z.elim (fun q => q.elim) (fun q => by omega)
  refine v_aload_n X dL_law_1008 1009 rfl 4 rfl ?_
  refine v_aload_n X dL_law_1009 1010 rfl 5 rfl ?_
  refine v_iload X dL_law_1010 1012 rfl 0 rfl ?_
  refine v_iconst X dL_law_1012 1013 rfl ?_
  refine v_iadd X dL_law_1013 1014 rfl ?_
  refine v_scr X hM hX hbl hbf (by omega) (by omega) hLx ha1 dL_law_1014 1015 rfl ?_
  refine v_aload_n X dL_law_1015 1016 rfl 2 rfl ?_
  refine v_mwS X hM (w_X9_isOpen l hl E x co hs er fa ss a1 (x + 339) lg hO ga1 q0 (by omega) (by omega)) kwL_isOpen ksL_isOpen kl_L_233 (As := [.ref x, .int (zI a1), .ref (x + 339)]) rfl rfl (rm_lawW rfl (by omega) (by omega)) dL_law_1016 1019 rfl (k' := kq + 1) (n' := nq + 6) rfl rfl (fsI (fun q q1 q2 => (Or.inr (by omega)))) ⟨h_cm, h_co, h_out⟩ (fun rv H1 lo1 hM hF hpo => ?_)
  obtain ⟨rfl, hw_0⟩ := hpo
  have h_out : PR E (x + 339) [(x + 339, .inl (E 102 4, 1, .inr (.inl (fun _ => zL (bz (co 3 a1 = 0))))))] H1 := hw_0
  replace hzl := Nat.le_trans hzl hF.1
  replace h_cm := h_cm.kept hF 1 rfl (fsd (by omega))
  replace h_co := h_co.kept hF 28 rfl (fsd (by omega))
  replace h_bf := h_bf.kept hF 28 rfl (fsd (by omega))
  replace h_sv := h_sv.kept hF 28 rfl (fsd (by omega))
  replace h_hi := h_hi.kept hF 2 rfl (fsd (by omega))
  replace h_hf := h_hf.kept hF (fsd (by omega))
  replace h_dk := h_dk.kept hF 3 rfl (fsd (by omega))
  replace h_se := h_se.kept hF 5 rfl (fsd (by omega))
  replace h_pg := h_pg.kept hF 1 rfl (fsd (by omega))
  replace h_sb := h_sb.kept hF 1 rfl (fsd (by omega))
  replace h_sa := h_sa.kept hF 1 rfl (fsd (by omega))
  replace h_pr := h_pr.kept hF 10 rfl (fsd (by omega))
  replace h_ln := h_ln.kept hF 1 rfl (fsd (by omega))
  replace h_la := h_la.kept hF 1 rfl (fsd (by omega))
  replace h_mo := h_mo.kept hF 5 rfl (fsd (by omega))
  replace h_outD := h_outD.kept hF 1 rfl (fsd (by omega))
  show V p l e room_1 s m args below meth cd Q 9 H1 lo1 (kq + 1) (nq + 6) 1019 [(5, .int (zI i)), (4, .ref (x + 340)), (3, .ref (x + 339)), (2, .ref (x + 334)), (1, .ref x), (0, .ref b)] [.int (zI 0)]
  refine v_istore X dL_law_1019 1021 rfl (by decide) (L' := [(6, .int (zI 0)), (5, .int (zI i)), (4, .ref (x + 340)), (3, .ref (x + 339)), (2, .ref (x + 334)), (1, .ref x), (0, .ref b)]) rfl ?_
  refine v_aload_n X dL_law_1021 1022 rfl 4 rfl ?_
  refine v_aload_n X dL_law_1022 1023 rfl 6 rfl ?_
  refine v_iload X dL_law_1023 1025 rfl 1 rfl ?_
  refine v_iconst X dL_law_1025 1026 rfl ?_
  refine v_iadd X dL_law_1026 1027 rfl ?_
  refine v_scr X hM hX hbl hbf (by omega) (by omega) hLx ha1 dL_law_1027 1028 rfl ?_
  refine v_muV X hM (h_mo.1) (c_X10_isOpen l E (x + 334) mo co a1 hO hR ga1 q0) kvX10_isOpen kiX10_isOpen kl_L_235 (q0 := 0) rfl rfl (As := [.int (zI a1)]) rfl rfl (rm_law rfl (by omega) (by omega)) dL_law_1028 1031 rfl (k' := kq + 1) (n' := nq + 6) rfl rfl (fsI (fun q q1 q2 => (Or.inr (by omega)))) h_mo (fun rv H2 lo2 hM hF hpo => ?_)
  obtain ⟨rfl, hw_0⟩ := hpo
  have h_mo : PR E (x + 334) (modelW E (x + 334) (updC mo 0 (updZ (mo 0) 0 0))) H2 := hw_0
  replace hzl := Nat.le_trans hzl hF.1
  replace h_cm := h_cm.kept hF 1 rfl (fsd (by omega))
  replace h_co := h_co.kept hF 28 rfl (fsd (by omega))
  replace h_bf := h_bf.kept hF 28 rfl (fsd (by omega))
  replace h_sv := h_sv.kept hF 28 rfl (fsd (by omega))
  replace h_hi := h_hi.kept hF 2 rfl (fsd (by omega))
  replace h_hf := h_hf.kept hF (fsd (by omega))
  replace h_dk := h_dk.kept hF 3 rfl (fsd (by omega))
  replace h_se := h_se.kept hF 5 rfl (fsd (by omega))
  replace h_pg := h_pg.kept hF 1 rfl (fsd (by omega))
  replace h_sb := h_sb.kept hF 1 rfl (fsd (by omega))
  replace h_sa := h_sa.kept hF 1 rfl (fsd (by omega))
  replace h_pr := h_pr.kept hF 10 rfl (fsd (by omega))
  replace h_ln := h_ln.kept hF 1 rfl (fsd (by omega))
  replace h_la := h_la.kept hF 1 rfl (fsd (by omega))
  replace h_out := h_out.kept hF 1 rfl (fsd (by omega))
  replace h_outD := h_outD.kept hF 1 rfl (fsd (by omega))
  show V p l e room_1 s m args below meth cd Q 9 H2 lo2 (kq + 1) (nq + 6) 1031 [(6, .int (zI 0)), (5, .int (zI i)), (4, .ref (x + 340)), (3, .ref (x + 339)), (2, .ref (x + 334)), (1, .ref x), (0, .ref b)] [.int (zI (bz (co 3 a1 = 0)))]
  refine v_istore X dL_law_1031 1033 rfl (by decide) (L' := [(7, .int (zI (bz (co 3 a1 = 0)))), (6, .int (zI 0)), (5, .int (zI i)), (4, .ref (x + 340)), (3, .ref (x + 339)), (2, .ref (x + 334)), (1, .ref x), (0, .ref b)]) rfl ?_
  refine v_aload_n X dL_law_1033 1034 rfl 5 rfl ?_
  refine v_rdV X hM.C h_mo.1 (c_X10_thrown l E (x + 334) (updC mo 0 (updZ (mo 0) 0 0))) kvX10_thrown kiX10_thrown kl_L_196 rfl rfl (As := []) rfl rfl (rm_law0 rfl (by omega) (by omega)) dL_law_1034 1037 rfl ?_
  show V p l e room_1 s m args below meth cd Q 9 H2 lo2 (kq + 1) (nq + 6) 1037 [(7, .int (zI (bz (co 3 a1 = 0)))), (6, .int (zI 0)), (5, .int (zI i)), (4, .ref (x + 340)), (3, .ref (x + 339)), (2, .ref (x + 334)), (1, .ref x), (0, .ref b)] [.int (zI 0)]
  refine v_iload X dL_law_1037 1039 rfl 1 rfl ?_
  refine v_icmp_eq X (by omega) (by omega) dL_law_1039 1042 1044 rfl (by decide) (fun c_3 => ?_) (fun c_3 => ?_)
  · skip
    refine v_iload X dL_law_1044 1046 rfl 1 rfl ?_
    refine v_if_ne X (by omega) dL_law_1046 1049 1068 rfl (by decide) (fun c_4 => ?_) (fun c_4 => ?_)
    · skip
      exfalso; omega
    · skip
      refine v_aload_n X dL_law_1049 1050 rfl 4 rfl ?_
      refine v_iconst X dL_law_1050 1051 rfl ?_
      refine v_lald X hM.C h_out.1 0 rfl dL_law_1051 1052 rfl ?_
      show V p l e room_1 s m args below meth cd Q 9 H2 lo2 (kq + 1) (nq + 6) 1052 [(7, .int (zI (bz (co 3 a1 = 0)))), (6, .int (zI 0)), (5, .int (zI i)), (4, .ref (x + 340)), (3, .ref (x + 339)), (2, .ref (x + 334)), (1, .ref x), (0, .ref b)] [.long (zL (bz (co 3 a1 = 0)))]
      refine v_iload X dL_law_1052 1054 rfl 0 rfl ?_
      refine v_bif_eq X dL_law_1054 1057 1061 rfl (by decide) (fun c_5 => ?_) (fun c_5 => ?_)
      · skip
        refine v_lconst 0 X dL_law_1061 rfl 1062 rfl ?_
        refine V_S (st' := [.long (zL 0), .long (zL 0)]) (by rw [show (bz (co 3 a1 = 0) : Int) = 0 from bz_f (by first | assumption | omega)]) ?_
        refine v_lcmp0 X dL_law_1062 1063 rfl ?_
        refine v_if_eq X (by omega) dL_law_1063 1066 1068 rfl (by decide) (fun c_6 => ?_) (fun c_6 => ?_)
        · skip
          refine v_goto X dL_law_1068 3555 (by decide) ?_
          refine v_widen (k' := kq + 60) (n' := nq + 4000) (by omega) (by omega) ?_
          exact V_pick [2, 3, 4, 5, 6, 7] rfl (kk _ _ hM ⟨hzl, _, _, _, _, _, _, _, _, _, _, _, _, _, _, _, _, _, _, _, _, _, _, _, _, _, _, _, _, ⟨h_cm, h_co, h_bf, h_sv, h_hi, h_hf, h_dk, h_se, h_pg, h_sb, h_sa, h_pr, h_ln, h_la, h_mo, h_out, h_outD⟩, hP0.mo_0⟩)
        · skip
          exfalso; omega
      · skip
        refine v_lconst 1 X dL_law_1057 rfl 1058 rfl ?_
        refine v_goto X dL_law_1058 1062 (by decide) ?_
        refine V_S (st' := [.long (zL 1), .long (zL 1)]) (by rw [show (bz (co 3 a1 = 0) : Int) = 1 from bz_t (by first | assumption | omega)]) ?_
        refine v_lcmp0 X dL_law_1062 1063 rfl ?_
        refine v_if_eq X (by omega) dL_law_1063 1066 1068 rfl (by decide) (fun c_7 => ?_) (fun c_7 => ?_)
        · skip
          refine v_goto X dL_law_1068 3555 (by decide) ?_
          refine v_widen (k' := kq + 60) (n' := nq + 4000) (by omega) (by omega) ?_
          exact V_pick [2, 3, 4, 5, 6, 7] rfl (kk _ _ hM ⟨hzl, _, _, _, _, _, _, _, _, _, _, _, _, _, _, _, _, _, _, _, _, _, _, _, _, _, _, _, _, ⟨h_cm, h_co, h_bf, h_sv, h_hi, h_hf, h_dk, h_se, h_pg, h_sb, h_sa, h_pr, h_ln, h_la, h_mo, h_out, h_outD⟩, hP0.mo_0⟩)
        · skip
          exfalso; omega
  · skip
    exfalso; omega
set_option maxHeartbeats 4000000 in
set_option maxRecDepth 20000 in
theorem lo_isOpen_1 (hl : l.stackTraces = false) (X : CF p m cd code 9 s args RL) (hX : va_X b Lx xs s s.heap) (hbl : b < s.heap.size) (hLx : Lx ≤ 2560) (hM : MS E [] s H lo) (hk : kq + 60 ≤ 603072) (hn : nq + 4000 ≤ 7211113) (hx : s.heap.size ≤ x) (hzl : x + 341 ≤ H.size) {v : Nat} {N : Nat} {f : Int → Int} {nn : Int} {v2 : Nat} {N2 : Nat} {f2 : Int → Int} {n2 : Int} {co : Nat → Int → Int} {bf : Nat → Int → Int} {cv : Nat → Int → Int} {hc : Nat → Nat → Int → Int} {nx : Int} {sz : Int} {hs : Int} {er : Int} {fa : Int} {ss : Int} {dk : Nat → Int → Int} {se : Nat → Int → Int} {po : Int} {si : Int} {pr : Nat → Int → Int} {ml : Int} {ml2 : Int} {mo : Nat → Int → Int} {lg : Nat → Int64} {dg : Nat → UInt64} (hW : LawW E x v N f nn v2 N2 f2 n2 co bf cv hc nx sz hs er fa ss dk se po si pr ml ml2 mo lg dg H) (hP : LawP x v N f nn v2 N2 f2 n2 co cv hc nx sz hs er fa ss po si pr mo) (i0 : 0 ≤ i) (i1 : i + 5 ≤ (Lx : Int)) {a1 : Int} (ha1 : (xs (i + 1).toNat).toInt = a1) (ga1 : Rg a1) (q0 : ¬ (0 ≤ a1 ∧ a1 < co 0 0)) (kk : ∀ (H1 : Heap) (lo1 : List Loc), MS E [] s H1 lo1 → LawI E x H1 → V p l e room_1 s m args below meth cd Q 9 H1 lo1 (kq + 60) (nq + 4000) 3555 [(5, .int (zI i)), (4, .ref (x + 340)), (3, .ref (x + 339)), (2, .ref (x + 334)), (1, .ref x), (0, .ref b)] []) : V p l e room_1 s m args below meth cd Q 9 H lo kq nq 1008 [(5, .int (zI i)), (4, .ref (x + 340)), (3, .ref (x + 339)), (2, .ref (x + 334)), (1, .ref x), (0, .ref b)] [] := by
  obtain ⟨h_cm, h_co, h_bf, h_sv, h_hi, h_hf, h_dk, h_se, h_pg, h_sb, h_sa, h_pr, h_ln, h_la, h_mo, h_out, h_outD⟩ := hW
  have hP0 := hP
  obtain ⟨⟨hD, hDv, hDh⟩, ⟨hRM, hch, hcs⟩, ⟨⟨n0, n1⟩, ⟨s0, s1⟩, hhs⟩, ⟨hm8, hnn, hAg, hNN, hnN, hf9⟩, ⟨T, hSB, hLT, hn38⟩, hPB, ⟨her, hfa, hss, ger, gfa, gss, gms⟩, ⟨gpo, gsi⟩, ⟨hv1, hv2, hvv⟩⟩ := hP
  have hO := hD.inv.ok
  have hI := hD.inv.ts
  have hSt := hD.inv.st
  have hS := hD.inv.sn
  have hR := hRM.1.2
  have hG := gp_inv hD
  have hb0 := hO.b0
  have hbw := hO.bw
  have hbf : ¬ Fr [] s.heap.size b := fun z => z.elim (fun q => q.elim) (fun q => by omega)
  refine v_aload_n X dL_law_1008 1009 rfl 4 rfl ?_
  refine v_aload_n X dL_law_1009 1010 rfl 5 rfl ?_
  refine v_iload X dL_law_1010 1012 rfl 0 rfl ?_
  refine v_iconst X dL_law_1012 1013 rfl ?_
  refine v_iadd X dL_law_1013 1014 rfl ?_
  refine v_scr X hM hX hbl hbf (by omega) (by omega) hLx ha1 dL_law_1014 1015 rfl ?_
  refine v_aload_n X dL_law_1015 1016 rfl 2 rfl ?_
  refine v_mwS X hM (w_X9_isOpen_0_t l hl E x co hs er fa ss a1 (x + 339) lg hO ga1 q0) kwL_isOpen ksL_isOpen kl_L_233 (As := [.ref x, .int (zI a1), .ref (x + 339)]) rfl rfl (rm_lawW rfl (by omega) (by omega)) dL_law_1016 1019 rfl (k' := kq + 1) (n' := nq + 6) rfl rfl (fun q hq => hq.elim) ⟨h_cm, h_co, h_out⟩ (fun rv H1 lo1 hM hF hpo => ?_)
  subst hpo
  replace hzl := Nat.le_trans hzl hF.1
  replace h_cm := h_cm.kept hF 1 rfl (fun q _ _ h => h.elim)
  replace h_co := h_co.kept hF 28 rfl (fun q _ _ h => h.elim)
  replace h_bf := h_bf.kept hF 28 rfl (fun q _ _ h => h.elim)
  replace h_sv := h_sv.kept hF 28 rfl (fun q _ _ h => h.elim)
  replace h_hi := h_hi.kept hF 2 rfl (fun q _ _ h => h.elim)
  replace h_hf := h_hf.kept hF (fun q _ _ h => h.elim)
  replace h_dk := h_dk.kept hF 3 rfl (fun q _ _ h => h.elim)
  replace h_se := h_se.kept hF 5 rfl (fun q _ _ h => h.elim)
  replace h_pg := h_pg.kept hF 1 rfl (fun q _ _ h => h.elim)
  replace h_sb := h_sb.kept hF 1 rfl (fun q _ _ h => h.elim)
  replace h_sa := h_sa.kept hF 1 rfl (fun q _ _ h => h.elim)
  replace h_pr := h_pr.kept hF 10 rfl (fun q _ _ h => h.elim)
  replace h_ln := h_ln.kept hF 1 rfl (fun q _ _ h => h.elim)
  replace h_la := h_la.kept hF 1 rfl (fun q _ _ h => h.elim)
  replace h_mo := h_mo.kept hF 5 rfl (fun q _ _ h => h.elim)
  replace h_out := h_out.kept hF 1 rfl (fun q _ _ h => h.elim)
  replace h_outD := h_outD.kept hF 1 rfl (fun q _ _ h => h.elim)
  show V p l e room_1 s m args below meth cd Q 9 H1 lo1 (kq + 1) (nq + 6) 1019 [(5, .int (zI i)), (4, .ref (x + 340)), (3, .ref (x + 339)), (2, .ref (x + 334)), (1, .ref x), (0, .ref b)] [.int (zI 1)]
  refine v_istore X dL_law_1019 1021 rfl (by decide) (L' := [(6, .int (zI 1)), (5, .int (zI i)), (4, .ref (x + 340)), (3, .ref (x + 339)), (2, .ref (x + 334)), (1, .ref x), (0, .ref b)]) rfl ?_
  refine v_aload_n X dL_law_1021 1022 rfl 4 rfl ?_
  refine v_aload_n X dL_law_1022 1023 rfl 6 rfl ?_
  refine v_iload X dL_law_1023 1025 rfl 1 rfl ?_
  refine v_iconst X dL_law_1025 1026 rfl ?_
  refine v_iadd X dL_law_1026 1027 rfl ?_
  refine v_scr X hM hX hbl hbf (by omega) (by omega) hLx ha1 dL_law_1027 1028 rfl ?_
  refine v_muV X hM (h_mo.1) (c_X10_isOpen_0 l E (x + 334) mo co a1 hO hR ga1 q0) kvX10_isOpen kiX10_isOpen kl_L_235 (q0 := 0) rfl rfl (As := [.int (zI a1)]) rfl rfl (rm_law rfl (by omega) (by omega)) dL_law_1028 1031 rfl (k' := kq + 1) (n' := nq + 6) rfl rfl (fsI (fun q q1 q2 => (Or.inr (by omega)))) h_mo (fun rv H2 lo2 hM hF hpo => ?_)
  obtain ⟨rfl, hw_0⟩ := hpo
  have h_mo : PR E (x + 334) (modelW E (x + 334) (updC mo 0 (updZ (mo 0) 0 1))) H2 := hw_0
  replace hzl := Nat.le_trans hzl hF.1
  replace h_cm := h_cm.kept hF 1 rfl (fsd (by omega))
  replace h_co := h_co.kept hF 28 rfl (fsd (by omega))
  replace h_bf := h_bf.kept hF 28 rfl (fsd (by omega))
  replace h_sv := h_sv.kept hF 28 rfl (fsd (by omega))
  replace h_hi := h_hi.kept hF 2 rfl (fsd (by omega))
  replace h_hf := h_hf.kept hF (fsd (by omega))
  replace h_dk := h_dk.kept hF 3 rfl (fsd (by omega))
  replace h_se := h_se.kept hF 5 rfl (fsd (by omega))
  replace h_pg := h_pg.kept hF 1 rfl (fsd (by omega))
  replace h_sb := h_sb.kept hF 1 rfl (fsd (by omega))
  replace h_sa := h_sa.kept hF 1 rfl (fsd (by omega))
  replace h_pr := h_pr.kept hF 10 rfl (fsd (by omega))
  replace h_ln := h_ln.kept hF 1 rfl (fsd (by omega))
  replace h_la := h_la.kept hF 1 rfl (fsd (by omega))
  replace h_out := h_out.kept hF 1 rfl (fsd (by omega))
  replace h_outD := h_outD.kept hF 1 rfl (fsd (by omega))
  show V p l e room_1 s m args below meth cd Q 9 H2 lo2 (kq + 1) (nq + 6) 1031 [(6, .int (zI 1)), (5, .int (zI i)), (4, .ref (x + 340)), (3, .ref (x + 339)), (2, .ref (x + 334)), (1, .ref x), (0, .ref b)] [.int (zI 0)]
  refine v_istore X dL_law_1031 1033 rfl (by decide) (L' := [(7, .int (zI 0)), (6, .int (zI 1)), (5, .int (zI i)), (4, .ref (x + 340)), (3, .ref (x + 339)), (2, .ref (x + 334)), (1, .ref x), (0, .ref b)]) rfl ?_
  refine v_aload_n X dL_law_1033 1034 rfl 5 rfl ?_
  refine v_rdV X hM.C h_mo.1 (c_X10_thrown l E (x + 334) (updC mo 0 (updZ (mo 0) 0 1))) kvX10_thrown kiX10_thrown kl_L_196 rfl rfl (As := []) rfl rfl (rm_law0 rfl (by omega) (by omega)) dL_law_1034 1037 rfl ?_
  show V p l e room_1 s m args below meth cd Q 9 H2 lo2 (kq + 1) (nq + 6) 1037 [(7, .int (zI 0)), (6, .int (zI 1)), (5, .int (zI i)), (4, .ref (x + 340)), (3, .ref (x + 339)), (2, .ref (x + 334)), (1, .ref x), (0, .ref b)] [.int (zI 1)]
  refine v_iload X dL_law_1037 1039 rfl 1 rfl ?_
  refine v_icmp_eq X (by omega) (by omega) dL_law_1039 1042 1044 rfl (by decide) (fun c_3 => ?_) (fun c_3 => ?_)
  · skip
    refine v_iload X dL_law_1044 1046 rfl 1 rfl ?_
    refine v_if_ne X (by omega) dL_law_1046 1049 1068 rfl (by decide) (fun c_4 => ?_) (fun c_4 => ?_)
    · skip
      refine v_goto X dL_law_1068 3555 (by decide) ?_
      refine v_widen (k' := kq + 60) (n' := nq + 4000) (by omega) (by omega) ?_
      exact V_pick [2, 3, 4, 5, 6, 7] rfl (kk _ _ hM ⟨hzl, _, _, _, _, _, _, _, _, _, _, _, _, _, _, _, _, _, _, _, _, _, _, _, _, _, _, _, _, ⟨h_cm, h_co, h_bf, h_sv, h_hi, h_hf, h_dk, h_se, h_pg, h_sb, h_sa, h_pr, h_ln, h_la, h_mo, h_out, h_outD⟩, hP0.mo_0⟩)
    · skip
      exfalso; omega
  · skip
    exfalso; omega
set_option maxHeartbeats 4000000 in
set_option maxRecDepth 20000 in
theorem lo_isDecided (hl : l.stackTraces = false) (X : CF p m cd code 9 s args RL) (hX : va_X b Lx xs s s.heap) (hbl : b < s.heap.size) (hLx : Lx ≤ 2560) (hM : MS E [] s H lo) (hk : kq + 60 ≤ 603072) (hn : nq + 4000 ≤ 7211113) (hx : s.heap.size ≤ x) (hzl : x + 341 ≤ H.size) {v : Nat} {N : Nat} {f : Int → Int} {nn : Int} {v2 : Nat} {N2 : Nat} {f2 : Int → Int} {n2 : Int} {co : Nat → Int → Int} {bf : Nat → Int → Int} {cv : Nat → Int → Int} {hc : Nat → Nat → Int → Int} {nx : Int} {sz : Int} {hs : Int} {er : Int} {fa : Int} {ss : Int} {dk : Nat → Int → Int} {se : Nat → Int → Int} {po : Int} {si : Int} {pr : Nat → Int → Int} {ml : Int} {ml2 : Int} {mo : Nat → Int → Int} {lg : Nat → Int64} {dg : Nat → UInt64} (hW : LawW E x v N f nn v2 N2 f2 n2 co bf cv hc nx sz hs er fa ss dk se po si pr ml ml2 mo lg dg H) (hP : LawP x v N f nn v2 N2 f2 n2 co cv hc nx sz hs er fa ss po si pr mo) (i0 : 0 ≤ i) (i1 : i + 5 ≤ (Lx : Int)) {a1 : Int} (ha1 : (xs (i + 1).toNat).toInt = a1) (ga1 : Rg a1) (q0 : 0 ≤ a1 ∧ a1 < co 0 0) (kk : ∀ (H1 : Heap) (lo1 : List Loc), MS E [] s H1 lo1 → LawI E x H1 → V p l e room_1 s m args below meth cd Q 9 H1 lo1 (kq + 60) (nq + 4000) 3555 [(5, .int (zI i)), (4, .ref (x + 340)), (3, .ref (x + 339)), (2, .ref (x + 334)), (1, .ref x), (0, .ref b)] []) : V p l e room_1 s m args below meth cd Q 9 H lo kq nq 1071 [(5, .int (zI i)), (4, .ref (x + 340)), (3, .ref (x + 339)), (2, .ref (x + 334)), (1, .ref x), (0, .ref b)] [] := by
  obtain ⟨h_cm, h_co, h_bf, h_sv, h_hi, h_hf, h_dk, h_se, h_pg, h_sb, h_sa, h_pr, h_ln, h_la, h_mo, h_out, h_outD⟩ := hW
  have hP0 := hP
  obtain ⟨⟨hD, hDv, hDh⟩, ⟨hRM, hch, hcs⟩, ⟨⟨n0, n1⟩, ⟨s0, s1⟩, hhs⟩, ⟨hm8, hnn, hAg, hNN, hnN, hf9⟩, ⟨T, hSB, hLT, hn38⟩, hPB, ⟨her, hfa, hss, ger, gfa, gss, gms⟩, ⟨gpo, gsi⟩, ⟨hv1, hv2, hvv⟩⟩ := hP
  have hO := hD.inv.ok
  have hI := hD.inv.ts
  have hSt := hD.inv.st
  have hS := hD.inv.sn
  have hR := hRM.1.2
  have hG := gp_inv hD
  have hb0 := hO.b0
  have hbw := hO.bw
  have hbf : ¬ Fr [] s.heap.size b := fun z => z.elim (fun q => q.elim) (fun q => by omega)
  refine v_aload_n X dL_law_1071 1072 rfl 4 rfl ?_
  refine v_aload_n X dL_law_1072 1073 rfl 5 rfl ?_
  refine v_iload X dL_law_1073 1075 rfl 0 rfl ?_
  refine v_iconst X dL_law_1075 1076 rfl ?_
  refine v_iadd X dL_law_1076 1077 rfl ?_
  refine v_scr X hM hX hbl hbf (by omega) (by omega) hLx ha1 dL_law_1077 1078 rfl ?_
  refine v_aload_n X dL_law_1078 1079 rfl 2 rfl ?_
  refine v_mwS X hM (w_X9_isDecided l hl E x co hs er fa ss a1 (x + 339) lg hO ga1 q0 (by omega) (by omega)) kwL_isDecided ksL_isDecided kl_L_236 (As := [.ref x, .int (zI a1), .ref (x + 339)]) rfl rfl (rm_lawW rfl (by omega) (by omega)) dL_law_1079 1082 rfl (k' := kq + 1) (n' := nq + 6) rfl rfl (fsI (fun q q1 q2 => (Or.inr (by omega)))) ⟨h_cm, h_co, h_out⟩ (fun rv H1 lo1 hM hF hpo => ?_)
  obtain ⟨rfl, hw_0⟩ := hpo
  have h_out : PR E (x + 339) [(x + 339, .inl (E 102 4, 1, .inr (.inl (fun _ => zL (bz (co 3 a1 = 1))))))] H1 := hw_0
  replace hzl := Nat.le_trans hzl hF.1
  replace h_cm := h_cm.kept hF 1 rfl (fsd (by omega))
  replace h_co := h_co.kept hF 28 rfl (fsd (by omega))
  replace h_bf := h_bf.kept hF 28 rfl (fsd (by omega))
  replace h_sv := h_sv.kept hF 28 rfl (fsd (by omega))
  replace h_hi := h_hi.kept hF 2 rfl (fsd (by omega))
  replace h_hf := h_hf.kept hF (fsd (by omega))
  replace h_dk := h_dk.kept hF 3 rfl (fsd (by omega))
  replace h_se := h_se.kept hF 5 rfl (fsd (by omega))
  replace h_pg := h_pg.kept hF 1 rfl (fsd (by omega))
  replace h_sb := h_sb.kept hF 1 rfl (fsd (by omega))
  replace h_sa := h_sa.kept hF 1 rfl (fsd (by omega))
  replace h_pr := h_pr.kept hF 10 rfl (fsd (by omega))
  replace h_ln := h_ln.kept hF 1 rfl (fsd (by omega))
  replace h_la := h_la.kept hF 1 rfl (fsd (by omega))
  replace h_mo := h_mo.kept hF 5 rfl (fsd (by omega))
  replace h_outD := h_outD.kept hF 1 rfl (fsd (by omega))
  show V p l e room_1 s m args below meth cd Q 9 H1 lo1 (kq + 1) (nq + 6) 1082 [(5, .int (zI i)), (4, .ref (x + 340)), (3, .ref (x + 339)), (2, .ref (x + 334)), (1, .ref x), (0, .ref b)] [.int (zI 0)]
  refine v_istore X dL_law_1082 1084 rfl (by decide) (L' := [(6, .int (zI 0)), (5, .int (zI i)), (4, .ref (x + 340)), (3, .ref (x + 339)), (2, .ref (x + 334)), (1, .ref x), (0, .ref b)]) rfl ?_
  refine v_aload_n X dL_law_1084 1085 rfl 4 rfl ?_
  refine v_aload_n X dL_law_1085 1086 rfl 6 rfl ?_
  refine v_iload X dL_law_1086 1088 rfl 1 rfl ?_
  refine v_iconst X dL_law_1088 1089 rfl ?_
  refine v_iadd X dL_law_1089 1090 rfl ?_
  refine v_scr X hM hX hbl hbf (by omega) (by omega) hLx ha1 dL_law_1090 1091 rfl ?_
  refine v_muV X hM (h_mo.1) (c_X10_isDecided l E (x + 334) mo co a1 hO hR ga1 q0) kvX10_isDecided kiX10_isDecided kl_L_238 (q0 := 0) rfl rfl (As := [.int (zI a1)]) rfl rfl (rm_law rfl (by omega) (by omega)) dL_law_1091 1094 rfl (k' := kq + 1) (n' := nq + 6) rfl rfl (fsI (fun q q1 q2 => (Or.inr (by omega)))) h_mo (fun rv H2 lo2 hM hF hpo => ?_)
  obtain ⟨rfl, hw_0⟩ := hpo
  have h_mo : PR E (x + 334) (modelW E (x + 334) (updC mo 0 (updZ (mo 0) 0 0))) H2 := hw_0
  replace hzl := Nat.le_trans hzl hF.1
  replace h_cm := h_cm.kept hF 1 rfl (fsd (by omega))
  replace h_co := h_co.kept hF 28 rfl (fsd (by omega))
  replace h_bf := h_bf.kept hF 28 rfl (fsd (by omega))
  replace h_sv := h_sv.kept hF 28 rfl (fsd (by omega))
  replace h_hi := h_hi.kept hF 2 rfl (fsd (by omega))
  replace h_hf := h_hf.kept hF (fsd (by omega))
  replace h_dk := h_dk.kept hF 3 rfl (fsd (by omega))
  replace h_se := h_se.kept hF 5 rfl (fsd (by omega))
  replace h_pg := h_pg.kept hF 1 rfl (fsd (by omega))
  replace h_sb := h_sb.kept hF 1 rfl (fsd (by omega))
  replace h_sa := h_sa.kept hF 1 rfl (fsd (by omega))
  replace h_pr := h_pr.kept hF 10 rfl (fsd (by omega))
  replace h_ln := h_ln.kept hF 1 rfl (fsd (by omega))
  replace h_la := h_la.kept hF 1 rfl (fsd (by omega))
  replace h_out := h_out.kept hF 1 rfl (fsd (by omega))
  replace h_outD := h_outD.kept hF 1 rfl (fsd (by omega))
  show V p l e room_1 s m args below meth cd Q 9 H2 lo2 (kq + 1) (nq + 6) 1094 [(6, .int (zI 0)), (5, .int (zI i)), (4, .ref (x + 340)), (3, .ref (x + 339)), (2, .ref (x + 334)), (1, .ref x), (0, .ref b)] [.int (zI (bz (co 3 a1 = 1)))]
  refine v_istore X dL_law_1094 1096 rfl (by decide) (L' := [(7, .int (zI (bz (co 3 a1 = 1)))), (6, .int (zI 0)), (5, .int (zI i)), (4, .ref (x + 340)), (3, .ref (x + 339)), (2, .ref (x + 334)), (1, .ref x), (0, .ref b)]) rfl ?_
  refine v_aload_n X dL_law_1096 1097 rfl 5 rfl ?_
  refine v_rdV X hM.C h_mo.1 (c_X10_thrown l E (x + 334) (updC mo 0 (updZ (mo 0) 0 0))) kvX10_thrown kiX10_thrown kl_L_196 rfl rfl (As := []) rfl rfl (rm_law0 rfl (by omega) (by omega)) dL_law_1097 1100 rfl ?_
  show V p l e room_1 s m args below meth cd Q 9 H2 lo2 (kq + 1) (nq + 6) 1100 [(7, .int (zI (bz (co 3 a1 = 1)))), (6, .int (zI 0)), (5, .int (zI i)), (4, .ref (x + 340)), (3, .ref (x + 339)), (2, .ref (x + 334)), (1, .ref x), (0, .ref b)] [.int (zI 0)]
  refine v_iload X dL_law_1100 1102 rfl 1 rfl ?_
  refine v_icmp_eq X (by omega) (by omega) dL_law_1102 1105 1107 rfl (by decide) (fun c_3 => ?_) (fun c_3 => ?_)
  · skip
    refine v_iload X dL_law_1107 1109 rfl 1 rfl ?_
    refine v_if_ne X (by omega) dL_law_1109 1112 1131 rfl (by decide) (fun c_4 => ?_) (fun c_4 => ?_)
    · skip
      exfalso; omega
    · skip
      refine v_aload_n X dL_law_1112 1113 rfl 4 rfl ?_
      refine v_iconst X dL_law_1113 1114 rfl ?_
      refine v_lald X hM.C h_out.1 0 rfl dL_law_1114 1115 rfl ?_
      show V p l e room_1 s m args below meth cd Q 9 H2 lo2 (kq + 1) (nq + 6) 1115 [(7, .int (zI (bz (co 3 a1 = 1)))), (6, .int (zI 0)), (5, .int (zI i)), (4, .ref (x + 340)), (3, .ref (x + 339)), (2, .ref (x + 334)), (1, .ref x), (0, .ref b)] [.long (zL (bz (co 3 a1 = 1)))]
      refine v_iload X dL_law_1115 1117 rfl 0 rfl ?_
      refine v_bif_eq X dL_law_1117 1120 1124 rfl (by decide) (fun c_5 => ?_) (fun c_5 => ?_)
      · skip
        refine v_lconst 0 X dL_law_1124 rfl 1125 rfl ?_
        refine V_S (st' := [.long (zL 0), .long (zL 0)]) (by rw [show (bz (co 3 a1 = 1) : Int) = 0 from bz_f (by first | assumption | omega)]) ?_
        refine v_lcmp0 X dL_law_1125 1126 rfl ?_
        refine v_if_eq X (by omega) dL_law_1126 1129 1131 rfl (by decide) (fun c_6 => ?_) (fun c_6 => ?_)
        · skip
          refine v_goto X dL_law_1131 3555 (by decide) ?_
          refine v_widen (k' := kq + 60) (n' := nq + 4000) (by omega) (by omega) ?_
          exact V_pick [2, 3, 4, 5, 6, 7] rfl (kk _ _ hM ⟨hzl, _, _, _, _, _, _, _, _, _, _, _, _, _, _, _, _, _, _, _, _, _, _, _, _, _, _, _, _, ⟨h_cm, h_co, h_bf, h_sv, h_hi, h_hf, h_dk, h_se, h_pg, h_sb, h_sa, h_pr, h_ln, h_la, h_mo, h_out, h_outD⟩, hP0.mo_0⟩)
        · skip
          exfalso; omega
      · skip
        refine v_lconst 1 X dL_law_1120 rfl 1121 rfl ?_
        refine v_goto X dL_law_1121 1125 (by decide) ?_
        refine V_S (st' := [.long (zL 1), .long (zL 1)]) (by rw [show (bz (co 3 a1 = 1) : Int) = 1 from bz_t (by first | assumption | omega)]) ?_
        refine v_lcmp0 X dL_law_1125 1126 rfl ?_
        refine v_if_eq X (by omega) dL_law_1126 1129 1131 rfl (by decide) (fun c_7 => ?_) (fun c_7 => ?_)
        · skip
          refine v_goto X dL_law_1131 3555 (by decide) ?_
          refine v_widen (k' := kq + 60) (n' := nq + 4000) (by omega) (by omega) ?_
          exact V_pick [2, 3, 4, 5, 6, 7] rfl (kk _ _ hM ⟨hzl, _, _, _, _, _, _, _, _, _, _, _, _, _, _, _, _, _, _, _, _, _, _, _, _, _, _, _, _, ⟨h_cm, h_co, h_bf, h_sv, h_hi, h_hf, h_dk, h_se, h_pg, h_sb, h_sa, h_pr, h_ln, h_la, h_mo, h_out, h_outD⟩, hP0.mo_0⟩)
        · skip
          exfalso; omega
  · skip
    exfalso; omega
set_option maxHeartbeats 4000000 in
set_option maxRecDepth 20000 in
theorem lo_isDecided_1 (hl : l.stackTraces = false) (X : CF p m cd code 9 s args RL) (hX : va_X b Lx xs s s.heap) (hbl : b < s.heap.size) (hLx : Lx ≤ 2560) (hM : MS E [] s H lo) (hk : kq + 60 ≤ 603072) (hn : nq + 4000 ≤ 7211113) (hx : s.heap.size ≤ x) (hzl : x + 341 ≤ H.size) {v : Nat} {N : Nat} {f : Int → Int} {nn : Int} {v2 : Nat} {N2 : Nat} {f2 : Int → Int} {n2 : Int} {co : Nat → Int → Int} {bf : Nat → Int → Int} {cv : Nat → Int → Int} {hc : Nat → Nat → Int → Int} {nx : Int} {sz : Int} {hs : Int} {er : Int} {fa : Int} {ss : Int} {dk : Nat → Int → Int} {se : Nat → Int → Int} {po : Int} {si : Int} {pr : Nat → Int → Int} {ml : Int} {ml2 : Int} {mo : Nat → Int → Int} {lg : Nat → Int64} {dg : Nat → UInt64} (hW : LawW E x v N f nn v2 N2 f2 n2 co bf cv hc nx sz hs er fa ss dk se po si pr ml ml2 mo lg dg H) (hP : LawP x v N f nn v2 N2 f2 n2 co cv hc nx sz hs er fa ss po si pr mo) (i0 : 0 ≤ i) (i1 : i + 5 ≤ (Lx : Int)) {a1 : Int} (ha1 : (xs (i + 1).toNat).toInt = a1) (ga1 : Rg a1) (q0 : ¬ (0 ≤ a1 ∧ a1 < co 0 0)) (kk : ∀ (H1 : Heap) (lo1 : List Loc), MS E [] s H1 lo1 → LawI E x H1 → V p l e room_1 s m args below meth cd Q 9 H1 lo1 (kq + 60) (nq + 4000) 3555 [(5, .int (zI i)), (4, .ref (x + 340)), (3, .ref (x + 339)), (2, .ref (x + 334)), (1, .ref x), (0, .ref b)] []) : V p l e room_1 s m args below meth cd Q 9 H lo kq nq 1071 [(5, .int (zI i)), (4, .ref (x + 340)), (3, .ref (x + 339)), (2, .ref (x + 334)), (1, .ref x), (0, .ref b)] [] := by
  obtain ⟨h_cm, h_co, h_bf, h_sv, h_hi, h_hf, h_dk, h_se, h_pg, h_sb, h_sa, h_pr, h_ln, h_la, h_mo, h_out, h_outD⟩ := hW
  have hP0 := hP
  obtain ⟨⟨hD, hDv, hDh⟩, ⟨hRM, hch, hcs⟩, ⟨⟨n0, n1⟩, ⟨s0, s1⟩, hhs⟩, ⟨hm8, hnn, hAg, hNN, hnN, hf9⟩, ⟨T, hSB, hLT, hn38⟩, hPB, ⟨her, hfa, hss, ger, gfa, gss, gms⟩, ⟨gpo, gsi⟩, ⟨hv1, hv2, hvv⟩⟩ := hP
  have hO := hD.inv.ok
  have hI := hD.inv.ts
  have hSt := hD.inv.st
  have hS := hD.inv.sn
  have hR := hRM.1.2
  have hG := gp_inv hD
  have hb0 := hO.b0
  have hbw := hO.bw
  have hbf : ¬ Fr [] s.heap.size b := fun z => z.elim (fun q => q.elim) (fun q => by omega)
  refine v_aload_n X dL_law_1071 1072 rfl 4 rfl ?_
  refine v_aload_n X dL_law_1072 1073 rfl 5 rfl ?_
  refine v_iload X dL_law_1073 1075 rfl 0 rfl ?_
  refine v_iconst X dL_law_1075 1076 rfl ?_
  refine v_iadd X dL_law_1076 1077 rfl ?_
  refine v_scr X hM hX hbl hbf (by omega) (by omega) hLx ha1 dL_law_1077 1078 rfl ?_
  refine v_aload_n X dL_law_1078 1079 rfl 2 rfl ?_
  refine v_mwS X hM (w_X9_isDecided_0_t l hl E x co hs er fa ss a1 (x + 339) lg hO ga1 q0) kwL_isDecided ksL_isDecided kl_L_236 (As := [.ref x, .int (zI a1), .ref (x + 339)]) rfl rfl (rm_lawW rfl (by omega) (by omega)) dL_law_1079 1082 rfl (k' := kq + 1) (n' := nq + 6) rfl rfl (fun q hq => hq.elim) ⟨h_cm, h_co, h_out⟩ (fun rv H1 lo1 hM hF hpo => ?_)
  subst hpo
  replace hzl := Nat.le_trans hzl hF.1
  replace h_cm := h_cm.kept hF 1 rfl (fun q _ _ h => h.elim)
  replace h_co := h_co.kept hF 28 rfl (fun q _ _ h => h.elim)
  replace h_bf := h_bf.kept hF 28 rfl (fun q _ _ h => h.elim)
  replace h_sv := h_sv.kept hF 28 rfl (fun q _ _ h => h.elim)
  replace h_hi := h_hi.kept hF 2 rfl (fun q _ _ h => h.elim)
  replace h_hf := h_hf.kept hF (fun q _ _ h => h.elim)
  replace h_dk := h_dk.kept hF 3 rfl (fun q _ _ h => h.elim)
  replace h_se := h_se.kept hF 5 rfl (fun q _ _ h => h.elim)
  replace h_pg := h_pg.kept hF 1 rfl (fun q _ _ h => h.elim)
  replace h_sb := h_sb.kept hF 1 rfl (fun q _ _ h => h.elim)
  replace h_sa := h_sa.kept hF 1 rfl (fun q _ _ h => h.elim)
  replace h_pr := h_pr.kept hF 10 rfl (fun q _ _ h => h.elim)
  replace h_ln := h_ln.kept hF 1 rfl (fun q _ _ h => h.elim)
  replace h_la := h_la.kept hF 1 rfl (fun q _ _ h => h.elim)
  replace h_mo := h_mo.kept hF 5 rfl (fun q _ _ h => h.elim)
  replace h_out := h_out.kept hF 1 rfl (fun q _ _ h => h.elim)
  replace h_outD := h_outD.kept hF 1 rfl (fun q _ _ h => h.elim)
  show V p l e room_1 s m args below meth cd Q 9 H1 lo1 (kq + 1) (nq + 6) 1082 [(5, .int (zI i)), (4, .ref (x + 340)), (3, .ref (x + 339)), (2, .ref (x + 334)), (1, .ref x), (0, .ref b)] [.int (zI 1)]
  refine v_istore X dL_law_1082 1084 rfl (by decide) (L' := [(6, .int (zI 1)), (5, .int (zI i)), (4, .ref (x + 340)), (3, .ref (x + 339)), (2, .ref (x + 334)), (1, .ref x), (0, .ref b)]) rfl ?_
  refine v_aload_n X dL_law_1084 1085 rfl 4 rfl ?_
  refine v_aload_n X dL_law_1085 1086 rfl 6 rfl ?_
  refine v_iload X dL_law_1086 1088 rfl 1 rfl ?_
  refine v_iconst X dL_law_1088 1089 rfl ?_
  refine v_iadd X dL_law_1089 1090 rfl ?_
  refine v_scr X hM hX hbl hbf (by omega) (by omega) hLx ha1 dL_law_1090 1091 rfl ?_
  refine v_muV X hM (h_mo.1) (c_X10_isDecided_0 l E (x + 334) mo co a1 hO hR ga1 q0) kvX10_isDecided kiX10_isDecided kl_L_238 (q0 := 0) rfl rfl (As := [.int (zI a1)]) rfl rfl (rm_law rfl (by omega) (by omega)) dL_law_1091 1094 rfl (k' := kq + 1) (n' := nq + 6) rfl rfl (fsI (fun q q1 q2 => (Or.inr (by omega)))) h_mo (fun rv H2 lo2 hM hF hpo => ?_)
  obtain ⟨rfl, hw_0⟩ := hpo
  have h_mo : PR E (x + 334) (modelW E (x + 334) (updC mo 0 (updZ (mo 0) 0 1))) H2 := hw_0
  replace hzl := Nat.le_trans hzl hF.1
  replace h_cm := h_cm.kept hF 1 rfl (fsd (by omega))
  replace h_co := h_co.kept hF 28 rfl (fsd (by omega))
  replace h_bf := h_bf.kept hF 28 rfl (fsd (by omega))
  replace h_sv := h_sv.kept hF 28 rfl (fsd (by omega))
  replace h_hi := h_hi.kept hF 2 rfl (fsd (by omega))
  replace h_hf := h_hf.kept hF (fsd (by omega))
  replace h_dk := h_dk.kept hF 3 rfl (fsd (by omega))
  replace h_se := h_se.kept hF 5 rfl (fsd (by omega))
  replace h_pg := h_pg.kept hF 1 rfl (fsd (by omega))
  replace h_sb := h_sb.kept hF 1 rfl (fsd (by omega))
  replace h_sa := h_sa.kept hF 1 rfl (fsd (by omega))
  replace h_pr := h_pr.kept hF 10 rfl (fsd (by omega))
  replace h_ln := h_ln.kept hF 1 rfl (fsd (by omega))
  replace h_la := h_la.kept hF 1 rfl (fsd (by omega))
  replace h_out := h_out.kept hF 1 rfl (fsd (by omega))
  replace h_outD := h_outD.kept hF 1 rfl (fsd (by omega))
  show V p l e room_1 s m args below meth cd Q 9 H2 lo2 (kq + 1) (nq + 6) 1094 [(6, .int (zI 1)), (5, .int (zI i)), (4, .ref (x + 340)), (3, .ref (x + 339)), (2, .ref (x + 334)), (1, .ref x), (0, .ref b)] [.int (zI 0)]
  refine v_istore X dL_law_1094 1096 rfl (by decide) (L' := [(7, .int (zI 0)), (6, .int (zI 1)), (5, .int (zI i)), (4, .ref (x + 340)), (3, .ref (x + 339)), (2, .ref (x + 334)), (1, .ref x), (0, .ref b)]) rfl ?_
  refine v_aload_n X dL_law_1096 1097 rfl 5 rfl ?_
  refine v_rdV X hM.C h_mo.1 (c_X10_thrown l E (x + 334) (updC mo 0 (updZ (mo 0) 0 1))) kvX10_thrown kiX10_thrown kl_L_196 rfl rfl (As := []) rfl rfl (rm_law0 rfl (by omega) (by omega)) dL_law_1097 1100 rfl ?_
  show V p l e room_1 s m args below meth cd Q 9 H2 lo2 (kq + 1) (nq + 6) 1100 [(7, .int (zI 0)), (6, .int (zI 1)), (5, .int (zI i)), (4, .ref (x + 340)), (3, .ref (x + 339)), (2, .ref (x + 334)), (1, .ref x), (0, .ref b)] [.int (zI 1)]
  refine v_iload X dL_law_1100 1102 rfl 1 rfl ?_
  refine v_icmp_eq X (by omega) (by omega) dL_law_1102 1105 1107 rfl (by decide) (fun c_3 => ?_) (fun c_3 => ?_)
  · skip
    refine v_iload X dL_law_1107 1109 rfl 1 rfl ?_
    refine v_if_ne X (by omega) dL_law_1109 1112 1131 rfl (by decide) (fun c_4 => ?_) (fun c_4 => ?_)
    · skip
      refine v_goto X dL_law_1131 3555 (by decide) ?_
      refine v_widen (k' := kq + 60) (n' := nq + 4000) (by omega) (by omega) ?_
      exact V_pick [2, 3, 4, 5, 6, 7] rfl (kk _ _ hM ⟨hzl, _, _, _, _, _, _, _, _, _, _, _, _, _, _, _, _, _, _, _, _, _, _, _, _, _, _, _, _, ⟨h_cm, h_co, h_bf, h_sv, h_hi, h_hf, h_dk, h_se, h_pg, h_sb, h_sa, h_pr, h_ln, h_la, h_mo, h_out, h_outD⟩, hP0.mo_0⟩)
    · skip
      exfalso; omega
  · skip
    exfalso; omega
set_option maxHeartbeats 4000000 in
set_option maxRecDepth 20000 in
theorem lo_isClosed (hl : l.stackTraces = false) (X : CF p m cd code 9 s args RL) (hX : va_X b Lx xs s s.heap) (hbl : b < s.heap.size) (hLx : Lx ≤ 2560) (hM : MS E [] s H lo) (hk : kq + 60 ≤ 603072) (hn : nq + 4000 ≤ 7211113) (hx : s.heap.size ≤ x) (hzl : x + 341 ≤ H.size) {v : Nat} {N : Nat} {f : Int → Int} {nn : Int} {v2 : Nat} {N2 : Nat} {f2 : Int → Int} {n2 : Int} {co : Nat → Int → Int} {bf : Nat → Int → Int} {cv : Nat → Int → Int} {hc : Nat → Nat → Int → Int} {nx : Int} {sz : Int} {hs : Int} {er : Int} {fa : Int} {ss : Int} {dk : Nat → Int → Int} {se : Nat → Int → Int} {po : Int} {si : Int} {pr : Nat → Int → Int} {ml : Int} {ml2 : Int} {mo : Nat → Int → Int} {lg : Nat → Int64} {dg : Nat → UInt64} (hW : LawW E x v N f nn v2 N2 f2 n2 co bf cv hc nx sz hs er fa ss dk se po si pr ml ml2 mo lg dg H) (hP : LawP x v N f nn v2 N2 f2 n2 co cv hc nx sz hs er fa ss po si pr mo) (i0 : 0 ≤ i) (i1 : i + 5 ≤ (Lx : Int)) {a1 : Int} (ha1 : (xs (i + 1).toNat).toInt = a1) (ga1 : Rg a1) (q0 : 0 ≤ a1 ∧ a1 < co 0 0) (kk : ∀ (H1 : Heap) (lo1 : List Loc), MS E [] s H1 lo1 → LawI E x H1 → V p l e room_1 s m args below meth cd Q 9 H1 lo1 (kq + 60) (nq + 4000) 3555 [(5, .int (zI i)), (4, .ref (x + 340)), (3, .ref (x + 339)), (2, .ref (x + 334)), (1, .ref x), (0, .ref b)] []) : V p l e room_1 s m args below meth cd Q 9 H lo kq nq 1134 [(5, .int (zI i)), (4, .ref (x + 340)), (3, .ref (x + 339)), (2, .ref (x + 334)), (1, .ref x), (0, .ref b)] [] := by
  obtain ⟨h_cm, h_co, h_bf, h_sv, h_hi, h_hf, h_dk, h_se, h_pg, h_sb, h_sa, h_pr, h_ln, h_la, h_mo, h_out, h_outD⟩ := hW
  have hP0 := hP
  obtain ⟨⟨hD, hDv, hDh⟩, ⟨hRM, hch, hcs⟩, ⟨⟨n0, n1⟩, ⟨s0, s1⟩, hhs⟩, ⟨hm8, hnn, hAg, hNN, hnN, hf9⟩, ⟨T, hSB, hLT, hn38⟩, hPB, ⟨her, hfa, hss, ger, gfa, gss, gms⟩, ⟨gpo, gsi⟩, ⟨hv1, hv2, hvv⟩⟩ := hP
  have hO := hD.inv.ok
  have hI := hD.inv.ts
  have hSt := hD.inv.st
  have hS := hD.inv.sn
  have hR := hRM.1.2
  have hG := gp_inv hD
  have hb0 := hO.b0
  have hbw := hO.bw
  have hbf : ¬ Fr [] s.heap.size b := fun z => z.elim (fun q => q.elim) (fun q => by omega)
  refine v_aload_n X dL_law_1134 1135 rfl 4 rfl ?_
  refine v_aload_n X dL_law_1135 1136 rfl 5 rfl ?_
  refine v_iload X dL_law_1136 1138 rfl 0 rfl ?_
  refine v_iconst X dL_law_1138 1139 rfl ?_
  refine v_iadd X dL_law_1139 1140 rfl ?_
  refine v_scr X hM hX hbl hbf (by omega) (by omega) hLx ha1 dL_law_1140 1141 rfl ?_
  refine v_aload_n X dL_law_1141 1142 rfl 2 rfl ?_
  refine v_mwS X hM (w_X9_isClosed l hl E x co hs er fa ss a1 (x + 339) lg hO ga1 q0 (by omega) (by omega)) kwL_isClosed ksL_isClosed kl_L_239 (As := [.ref x, .int (zI a1), .ref (x + 339)]) rfl rfl (rm_lawW rfl (by omega) (by omega)) dL_law_1142 1145 rfl (k' := kq + 1) (n' := nq + 6) rfl rfl (fsI (fun q q1 q2 => (Or.inr (by omega)))) ⟨h_cm, h_co, h_out⟩ (fun rv H1 lo1 hM hF hpo => ?_)
  obtain ⟨rfl, hw_0⟩ := hpo
  have h_out : PR E (x + 339) [(x + 339, .inl (E 102 4, 1, .inr (.inl (fun _ => zL (bz (co 3 a1 = 2))))))] H1 := hw_0
  replace hzl := Nat.le_trans hzl hF.1
  replace h_cm := h_cm.kept hF 1 rfl (fsd (by omega))
  replace h_co := h_co.kept hF 28 rfl (fsd (by omega))
  replace h_bf := h_bf.kept hF 28 rfl (fsd (by omega))
  replace h_sv := h_sv.kept hF 28 rfl (fsd (by omega))
  replace h_hi := h_hi.kept hF 2 rfl (fsd (by omega))
  replace h_hf := h_hf.kept hF (fsd (by omega))
  replace h_dk := h_dk.kept hF 3 rfl (fsd (by omega))
  replace h_se := h_se.kept hF 5 rfl (fsd (by omega))
  replace h_pg := h_pg.kept hF 1 rfl (fsd (by omega))
  replace h_sb := h_sb.kept hF 1 rfl (fsd (by omega))
  replace h_sa := h_sa.kept hF 1 rfl (fsd (by omega))
  replace h_pr := h_pr.kept hF 10 rfl (fsd (by omega))
  replace h_ln := h_ln.kept hF 1 rfl (fsd (by omega))
  replace h_la := h_la.kept hF 1 rfl (fsd (by omega))
  replace h_mo := h_mo.kept hF 5 rfl (fsd (by omega))
  replace h_outD := h_outD.kept hF 1 rfl (fsd (by omega))
  show V p l e room_1 s m args below meth cd Q 9 H1 lo1 (kq + 1) (nq + 6) 1145 [(5, .int (zI i)), (4, .ref (x + 340)), (3, .ref (x + 339)), (2, .ref (x + 334)), (1, .ref x), (0, .ref b)] [.int (zI 0)]
  refine v_istore X dL_law_1145 1147 rfl (by decide) (L' := [(6, .int (zI 0)), (5, .int (zI i)), (4, .ref (x + 340)), (3, .ref (x + 339)), (2, .ref (x + 334)), (1, .ref x), (0, .ref b)]) rfl ?_
  refine v_aload_n X dL_law_1147 1148 rfl 4 rfl ?_
  refine v_aload_n X dL_law_1148 1149 rfl 6 rfl ?_
  refine v_iload X dL_law_1149 1151 rfl 1 rfl ?_
  refine v_iconst X dL_law_1151 1152 rfl ?_
  refine v_iadd X dL_law_1152 1153 rfl ?_
  refine v_scr X hM hX hbl hbf (by omega) (by omega) hLx ha1 dL_law_1153 1154 rfl ?_
  refine v_muV X hM (h_mo.1) (c_X10_isClosed l E (x + 334) mo co a1 hO hR ga1 q0) kvX10_isClosed kiX10_isClosed kl_L_241 (q0 := 0) rfl rfl (As := [.int (zI a1)]) rfl rfl (rm_law rfl (by omega) (by omega)) dL_law_1154 1157 rfl (k' := kq + 1) (n' := nq + 6) rfl rfl (fsI (fun q q1 q2 => (Or.inr (by omega)))) h_mo (fun rv H2 lo2 hM hF hpo => ?_)
  obtain ⟨rfl, hw_0⟩ := hpo
  have h_mo : PR E (x + 334) (modelW E (x + 334) (updC mo 0 (updZ (mo 0) 0 0))) H2 := hw_0
  replace hzl := Nat.le_trans hzl hF.1
  replace h_cm := h_cm.kept hF 1 rfl (fsd (by omega))
  replace h_co := h_co.kept hF 28 rfl (fsd (by omega))
  replace h_bf := h_bf.kept hF 28 rfl (fsd (by omega))
  replace h_sv := h_sv.kept hF 28 rfl (fsd (by omega))
  replace h_hi := h_hi.kept hF 2 rfl (fsd (by omega))
  replace h_hf := h_hf.kept hF (fsd (by omega))
  replace h_dk := h_dk.kept hF 3 rfl (fsd (by omega))
  replace h_se := h_se.kept hF 5 rfl (fsd (by omega))
  replace h_pg := h_pg.kept hF 1 rfl (fsd (by omega))
  replace h_sb := h_sb.kept hF 1 rfl (fsd (by omega))
  replace h_sa := h_sa.kept hF 1 rfl (fsd (by omega))
  replace h_pr := h_pr.kept hF 10 rfl (fsd (by omega))
  replace h_ln := h_ln.kept hF 1 rfl (fsd (by omega))
  replace h_la := h_la.kept hF 1 rfl (fsd (by omega))
  replace h_out := h_out.kept hF 1 rfl (fsd (by omega))
  replace h_outD := h_outD.kept hF 1 rfl (fsd (by omega))
  show V p l e room_1 s m args below meth cd Q 9 H2 lo2 (kq + 1) (nq + 6) 1157 [(6, .int (zI 0)), (5, .int (zI i)), (4, .ref (x + 340)), (3, .ref (x + 339)), (2, .ref (x + 334)), (1, .ref x), (0, .ref b)] [.int (zI (bz (co 3 a1 = 2)))]
  refine v_istore X dL_law_1157 1159 rfl (by decide) (L' := [(7, .int (zI (bz (co 3 a1 = 2)))), (6, .int (zI 0)), (5, .int (zI i)), (4, .ref (x + 340)), (3, .ref (x + 339)), (2, .ref (x + 334)), (1, .ref x), (0, .ref b)]) rfl ?_
  refine v_aload_n X dL_law_1159 1160 rfl 5 rfl ?_
  refine v_rdV X hM.C h_mo.1 (c_X10_thrown l E (x + 334) (updC mo 0 (updZ (mo 0) 0 0))) kvX10_thrown kiX10_thrown kl_L_196 rfl rfl (As := []) rfl rfl (rm_law0 rfl (by omega) (by omega)) dL_law_1160 1163 rfl ?_
  show V p l e room_1 s m args below meth cd Q 9 H2 lo2 (kq + 1) (nq + 6) 1163 [(7, .int (zI (bz (co 3 a1 = 2)))), (6, .int (zI 0)), (5, .int (zI i)), (4, .ref (x + 340)), (3, .ref (x + 339)), (2, .ref (x + 334)), (1, .ref x), (0, .ref b)] [.int (zI 0)]
  refine v_iload X dL_law_1163 1165 rfl 1 rfl ?_
  refine v_icmp_eq X (by omega) (by omega) dL_law_1165 1168 1170 rfl (by decide) (fun c_3 => ?_) (fun c_3 => ?_)
  · skip
    refine v_iload X dL_law_1170 1172 rfl 1 rfl ?_
    refine v_if_ne X (by omega) dL_law_1172 1175 1194 rfl (by decide) (fun c_4 => ?_) (fun c_4 => ?_)
    · skip
      exfalso; omega
    · skip
      refine v_aload_n X dL_law_1175 1176 rfl 4 rfl ?_
      refine v_iconst X dL_law_1176 1177 rfl ?_
      refine v_lald X hM.C h_out.1 0 rfl dL_law_1177 1178 rfl ?_
      show V p l e room_1 s m args below meth cd Q 9 H2 lo2 (kq + 1) (nq + 6) 1178 [(7, .int (zI (bz (co 3 a1 = 2)))), (6, .int (zI 0)), (5, .int (zI i)), (4, .ref (x + 340)), (3, .ref (x + 339)), (2, .ref (x + 334)), (1, .ref x), (0, .ref b)] [.long (zL (bz (co 3 a1 = 2)))]
      refine v_iload X dL_law_1178 1180 rfl 0 rfl ?_
      refine v_bif_eq X dL_law_1180 1183 1187 rfl (by decide) (fun c_5 => ?_) (fun c_5 => ?_)
      · skip
        refine v_lconst 0 X dL_law_1187 rfl 1188 rfl ?_
        refine V_S (st' := [.long (zL 0), .long (zL 0)]) (by rw [show (bz (co 3 a1 = 2) : Int) = 0 from bz_f (by first | assumption | omega)]) ?_
        refine v_lcmp0 X dL_law_1188 1189 rfl ?_
        refine v_if_eq X (by omega) dL_law_1189 1192 1194 rfl (by decide) (fun c_6 => ?_) (fun c_6 => ?_)
        · skip
          refine v_goto X dL_law_1194 3555 (by decide) ?_
          refine v_widen (k' := kq + 60) (n' := nq + 4000) (by omega) (by omega) ?_
          exact V_pick [2, 3, 4, 5, 6, 7] rfl (kk _ _ hM ⟨hzl, _, _, _, _, _, _, _, _, _, _, _, _, _, _, _, _, _, _, _, _, _, _, _, _, _, _, _, _, ⟨h_cm, h_co, h_bf, h_sv, h_hi, h_hf, h_dk, h_se, h_pg, h_sb, h_sa, h_pr, h_ln, h_la, h_mo, h_out, h_outD⟩, hP0.mo_0⟩)
        · skip
          exfalso; omega
      · skip
        refine v_lconst 1 X dL_law_1183 rfl 1184 rfl ?_
        refine v_goto X dL_law_1184 1188 (by decide) ?_
        refine V_S (st' := [.long (zL 1), .long (zL 1)]) (by rw [show (bz (co 3 a1 = 2) : Int) = 1 from bz_t (by first | assumption | omega)]) ?_
        refine v_lcmp0 X dL_law_1188 1189 rfl ?_
        refine v_if_eq X (by omega) dL_law_1189 1192 1194 rfl (by decide) (fun c_7 => ?_) (fun c_7 => ?_)
        · skip
          refine v_goto X dL_law_1194 3555 (by decide) ?_
          refine v_widen (k' := kq + 60) (n' := nq + 4000) (by omega) (by omega) ?_
          exact V_pick [2, 3, 4, 5, 6, 7] rfl (kk _ _ hM ⟨hzl, _, _, _, _, _, _, _, _, _, _, _, _, _, _, _, _, _, _, _, _, _, _, _, _, _, _, _, _, ⟨h_cm, h_co, h_bf, h_sv, h_hi, h_hf, h_dk, h_se, h_pg, h_sb, h_sa, h_pr, h_ln, h_la, h_mo, h_out, h_outD⟩, hP0.mo_0⟩)
        · skip
          exfalso; omega
  · skip
    exfalso; omega
set_option maxHeartbeats 4000000 in
set_option maxRecDepth 20000 in
theorem lo_isClosed_1 (hl : l.stackTraces = false) (X : CF p m cd code 9 s args RL) (hX : va_X b Lx xs s s.heap) (hbl : b < s.heap.size) (hLx : Lx ≤ 2560) (hM : MS E [] s H lo) (hk : kq + 60 ≤ 603072) (hn : nq + 4000 ≤ 7211113) (hx : s.heap.size ≤ x) (hzl : x + 341 ≤ H.size) {v : Nat} {N : Nat} {f : Int → Int} {nn : Int} {v2 : Nat} {N2 : Nat} {f2 : Int → Int} {n2 : Int} {co : Nat → Int → Int} {bf : Nat → Int → Int} {cv : Nat → Int → Int} {hc : Nat → Nat → Int → Int} {nx : Int} {sz : Int} {hs : Int} {er : Int} {fa : Int} {ss : Int} {dk : Nat → Int → Int} {se : Nat → Int → Int} {po : Int} {si : Int} {pr : Nat → Int → Int} {ml : Int} {ml2 : Int} {mo : Nat → Int → Int} {lg : Nat → Int64} {dg : Nat → UInt64} (hW : LawW E x v N f nn v2 N2 f2 n2 co bf cv hc nx sz hs er fa ss dk se po si pr ml ml2 mo lg dg H) (hP : LawP x v N f nn v2 N2 f2 n2 co cv hc nx sz hs er fa ss po si pr mo) (i0 : 0 ≤ i) (i1 : i + 5 ≤ (Lx : Int)) {a1 : Int} (ha1 : (xs (i + 1).toNat).toInt = a1) (ga1 : Rg a1) (q0 : ¬ (0 ≤ a1 ∧ a1 < co 0 0)) (kk : ∀ (H1 : Heap) (lo1 : List Loc), MS E [] s H1 lo1 → LawI E x H1 → V p l e room_1 s m args below meth cd Q 9 H1 lo1 (kq + 60) (nq + 4000) 3555 [(5, .int (zI i)), (4, .ref (x + 340)), (3, .ref (x + 339)), (2, .ref (x + 334)), (1, .ref x), (0, .ref b)] []) : V p l e room_1 s m args below meth cd Q 9 H lo kq nq 1134 [(5, .int (zI i)), (4, .ref (x + 340)), (3, .ref (x + 339)), (2, .ref (x + 334)), (1, .ref x), (0, .ref b)] [] := by
  obtain ⟨h_cm, h_co, h_bf, h_sv, h_hi, h_hf, h_dk, h_se, h_pg, h_sb, h_sa, h_pr, h_ln, h_la, h_mo, h_out, h_outD⟩ := hW
  have hP0 := hP
  obtain ⟨⟨hD, hDv, hDh⟩, ⟨hRM, hch, hcs⟩, ⟨⟨n0, n1⟩, ⟨s0, s1⟩, hhs⟩, ⟨hm8, hnn, hAg, hNN, hnN, hf9⟩, ⟨T, hSB, hLT, hn38⟩, hPB, ⟨her, hfa, hss, ger, gfa, gss, gms⟩, ⟨gpo, gsi⟩, ⟨hv1, hv2, hvv⟩⟩ := hP
  have hO := hD.inv.ok
  have hI := hD.inv.ts
  have hSt := hD.inv.st
  have hS := hD.inv.sn
  have hR := hRM.1.2
  have hG := gp_inv hD
  have hb0 := hO.b0
  have hbw := hO.bw
  have hbf : ¬ Fr [] s.heap.size b := fun z => z.elim (fun q => q.elim) (fun q => by omega)
  refine v_aload_n X dL_law_1134 1135 rfl 4 rfl ?_
  refine v_aload_n X dL_law_1135 1136 rfl 5 rfl ?_
  refine v_iload X dL_law_1136 1138 rfl 0 rfl ?_
  refine v_iconst X dL_law_1138 1139 rfl ?_
  refine v_iadd X dL_law_1139 1140 rfl ?_
  refine v_scr X hM hX hbl hbf (by omega) (by omega) hLx ha1 dL_law_1140 1141 rfl ?_
  refine v_aload_n X dL_law_1141 1142 rfl 2 rfl ?_
  refine v_mwS X hM (w_X9_isClosed_0_t l hl E x co hs er fa ss a1 (x + 339) lg hO ga1 q0) kwL_isClosed ksL_isClosed kl_L_239 (As := [.ref x, .int (zI a1), .ref (x + 339)]) rfl rfl (rm_lawW rfl (by omega) (by omega)) dL_law_1142 1145 rfl (k' := kq + 1) (n' := nq + 6) rfl rfl (fun q hq => hq.elim) ⟨h_cm, h_co, h_out⟩ (fun rv H1 lo1 hM hF hpo => ?_)
  subst hpo
  replace hzl := Nat.le_trans hzl hF.1
  replace h_cm := h_cm.kept hF 1 rfl (fun q _ _ h => h.elim)
  replace h_co := h_co.kept hF 28 rfl (fun q _ _ h => h.elim)
  replace h_bf := h_bf.kept hF 28 rfl (fun q _ _ h => h.elim)
  replace h_sv := h_sv.kept hF 28 rfl (fun q _ _ h => h.elim)
  replace h_hi := h_hi.kept hF 2 rfl (fun q _ _ h => h.elim)
  replace h_hf := h_hf.kept hF (fun q _ _ h => h.elim)
  replace h_dk := h_dk.kept hF 3 rfl (fun q _ _ h => h.elim)
  replace h_se := h_se.kept hF 5 rfl (fun q _ _ h => h.elim)
  replace h_pg := h_pg.kept hF 1 rfl (fun q _ _ h => h.elim)
  replace h_sb := h_sb.kept hF 1 rfl (fun q _ _ h => h.elim)
  replace h_sa := h_sa.kept hF 1 rfl (fun q _ _ h => h.elim)
  replace h_pr := h_pr.kept hF 10 rfl (fun q _ _ h => h.elim)
  replace h_ln := h_ln.kept hF 1 rfl (fun q _ _ h => h.elim)
  replace h_la := h_la.kept hF 1 rfl (fun q _ _ h => h.elim)
  replace h_mo := h_mo.kept hF 5 rfl (fun q _ _ h => h.elim)
  replace h_out := h_out.kept hF 1 rfl (fun q _ _ h => h.elim)
  replace h_outD := h_outD.kept hF 1 rfl (fun q _ _ h => h.elim)
  show V p l e room_1 s m args below meth cd Q 9 H1 lo1 (kq + 1) (nq + 6) 1145 [(5, .int (zI i)), (4, .ref (x + 340)), (3, .ref (x + 339)), (2, .ref (x + 334)), (1, .ref x), (0, .ref b)] [.int (zI 1)]
  refine v_istore X dL_law_1145 1147 rfl (by decide) (L' := [(6, .int (zI 1)), (5, .int (zI i)), (4, .ref (x + 340)), (3, .ref (x + 339)), (2, .ref (x + 334)), (1, .ref x), (0, .ref b)]) rfl ?_
  refine v_aload_n X dL_law_1147 1148 rfl 4 rfl ?_
  refine v_aload_n X dL_law_1148 1149 rfl 6 rfl ?_
  refine v_iload X dL_law_1149 1151 rfl 1 rfl ?_
  refine v_iconst X dL_law_1151 1152 rfl ?_
  refine v_iadd X dL_law_1152 1153 rfl ?_
  refine v_scr X hM hX hbl hbf (by omega) (by omega) hLx ha1 dL_law_1153 1154 rfl ?_
  refine v_muV X hM (h_mo.1) (c_X10_isClosed_0 l E (x + 334) mo co a1 hO hR ga1 q0) kvX10_isClosed kiX10_isClosed kl_L_241 (q0 := 0) rfl rfl (As := [.int (zI a1)]) rfl rfl (rm_law rfl (by omega) (by omega)) dL_law_1154 1157 rfl (k' := kq + 1) (n' := nq + 6) rfl rfl (fsI (fun q q1 q2 => (Or.inr (by omega)))) h_mo (fun rv H2 lo2 hM hF hpo => ?_)
  obtain ⟨rfl, hw_0⟩ := hpo
  have h_mo : PR E (x + 334) (modelW E (x + 334) (updC mo 0 (updZ (mo 0) 0 1))) H2 := hw_0
  replace hzl := Nat.le_trans hzl hF.1
  replace h_cm := h_cm.kept hF 1 rfl (fsd (by omega))
  replace h_co := h_co.kept hF 28 rfl (fsd (by omega))
  replace h_bf := h_bf.kept hF 28 rfl (fsd (by omega))
  replace h_sv := h_sv.kept hF 28 rfl (fsd (by omega))
  replace h_hi := h_hi.kept hF 2 rfl (fsd (by omega))
  replace h_hf := h_hf.kept hF (fsd (by omega))
  replace h_dk := h_dk.kept hF 3 rfl (fsd (by omega))
  replace h_se := h_se.kept hF 5 rfl (fsd (by omega))
  replace h_pg := h_pg.kept hF 1 rfl (fsd (by omega))
  replace h_sb := h_sb.kept hF 1 rfl (fsd (by omega))
  replace h_sa := h_sa.kept hF 1 rfl (fsd (by omega))
  replace h_pr := h_pr.kept hF 10 rfl (fsd (by omega))
  replace h_ln := h_ln.kept hF 1 rfl (fsd (by omega))
  replace h_la := h_la.kept hF 1 rfl (fsd (by omega))
  replace h_out := h_out.kept hF 1 rfl (fsd (by omega))
  replace h_outD := h_outD.kept hF 1 rfl (fsd (by omega))
  show V p l e room_1 s m args below meth cd Q 9 H2 lo2 (kq + 1) (nq + 6) 1157 [(6, .int (zI 1)), (5, .int (zI i)), (4, .ref (x + 340)), (3, .ref (x + 339)), (2, .ref (x + 334)), (1, .ref x), (0, .ref b)] [.int (zI 0)]
  refine v_istore X dL_law_1157 1159 rfl (by decide) (L' := [(7, .int (zI 0)), (6, .int (zI 1)), (5, .int (zI i)), (4, .ref (x + 340)), (3, .ref (x + 339)), (2, .ref (x + 334)), (1, .ref x), (0, .ref b)]) rfl ?_
  refine v_aload_n X dL_law_1159 1160 rfl 5 rfl ?_
  refine v_rdV X hM.C h_mo.1 (c_X10_thrown l E (x + 334) (updC mo 0 (updZ (mo 0) 0 1))) kvX10_thrown kiX10_thrown kl_L_196 rfl rfl (As := []) rfl rfl (rm_law0 rfl (by omega) (by omega)) dL_law_1160 1163 rfl ?_
  show V p l e room_1 s m args below meth cd Q 9 H2 lo2 (kq + 1) (nq + 6) 1163 [(7, .int (zI 0)), (6, .int (zI 1)), (5, .int (zI i)), (4, .ref (x + 340)), (3, .ref (x + 339)), (2, .ref (x + 334)), (1, .ref x), (0, .ref b)] [.int (zI 1)]
  refine v_iload X dL_law_1163 1165 rfl 1 rfl ?_
  refine v_icmp_eq X (by omega) (by omega) dL_law_1165 1168 1170 rfl (by decide) (fun c_3 => ?_) (fun c_3 => ?_)
  · skip
    refine v_iload X dL_law_1170 1172 rfl 1 rfl ?_
    refine v_if_ne X (by omega) dL_law_1172 1175 1194 rfl (by decide) (fun c_4 => ?_) (fun c_4 => ?_)
    · skip
      refine v_goto X dL_law_1194 3555 (by decide) ?_
      refine v_widen (k' := kq + 60) (n' := nq + 4000) (by omega) (by omega) ?_
      exact V_pick [2, 3, 4, 5, 6, 7] rfl (kk _ _ hM ⟨hzl, _, _, _, _, _, _, _, _, _, _, _, _, _, _, _, _, _, _, _, _, _, _, _, _, _, _, _, _, ⟨h_cm, h_co, h_bf, h_sv, h_hi, h_hf, h_dk, h_se, h_pg, h_sb, h_sa, h_pr, h_ln, h_la, h_mo, h_out, h_outD⟩, hP0.mo_0⟩)
    · skip
      exfalso; omega
  · skip
    exfalso; omega
set_option maxHeartbeats 4000000 in
set_option maxRecDepth 20000 in
theorem lo_isGuilty (hl : l.stackTraces = false) (X : CF p m cd code 9 s args RL) (hX : va_X b Lx xs s s.heap) (hbl : b < s.heap.size) (hLx : Lx ≤ 2560) (hM : MS E [] s H lo) (hk : kq + 60 ≤ 603072) (hn : nq + 4000 ≤ 7211113) (hx : s.heap.size ≤ x) (hzl : x + 341 ≤ H.size) {v : Nat} {N : Nat} {f : Int → Int} {nn : Int} {v2 : Nat} {N2 : Nat} {f2 : Int → Int} {n2 : Int} {co : Nat → Int → Int} {bf : Nat → Int → Int} {cv : Nat → Int → Int} {hc : Nat → Nat → Int → Int} {nx : Int} {sz : Int} {hs : Int} {er : Int} {fa : Int} {ss : Int} {dk : Nat → Int → Int} {se : Nat → Int → Int} {po : Int} {si : Int} {pr : Nat → Int → Int} {ml : Int} {ml2 : Int} {mo : Nat → Int → Int} {lg : Nat → Int64} {dg : Nat → UInt64} (hW : LawW E x v N f nn v2 N2 f2 n2 co bf cv hc nx sz hs er fa ss dk se po si pr ml ml2 mo lg dg H) (hP : LawP x v N f nn v2 N2 f2 n2 co cv hc nx sz hs er fa ss po si pr mo) (i0 : 0 ≤ i) (i1 : i + 5 ≤ (Lx : Int)) {a1 : Int} (ha1 : (xs (i + 1).toNat).toInt = a1) (ga1 : Rg a1) (q0 : 0 ≤ a1 ∧ a1 < co 0 0) (q1 : ¬ co 3 a1 = 0) (kk : ∀ (H1 : Heap) (lo1 : List Loc), MS E [] s H1 lo1 → LawI E x H1 → V p l e room_1 s m args below meth cd Q 9 H1 lo1 (kq + 60) (nq + 4000) 3555 [(5, .int (zI i)), (4, .ref (x + 340)), (3, .ref (x + 339)), (2, .ref (x + 334)), (1, .ref x), (0, .ref b)] []) : V p l e room_1 s m args below meth cd Q 9 H lo kq nq 1197 [(5, .int (zI i)), (4, .ref (x + 340)), (3, .ref (x + 339)), (2, .ref (x + 334)), (1, .ref x), (0, .ref b)] [] := by
  obtain ⟨h_cm, h_co, h_bf, h_sv, h_hi, h_hf, h_dk, h_se, h_pg, h_sb, h_sa, h_pr, h_ln, h_la, h_mo, h_out, h_outD⟩ := hW
  have hP0 := hP
  obtain ⟨⟨hD, hDv, hDh⟩, ⟨hRM, hch, hcs⟩, ⟨⟨n0, n1⟩, ⟨s0, s1⟩, hhs⟩, ⟨hm8, hnn, hAg, hNN, hnN, hf9⟩, ⟨T, hSB, hLT, hn38⟩, hPB, ⟨her, hfa, hss, ger, gfa, gss, gms⟩, ⟨gpo, gsi⟩, ⟨hv1, hv2, hvv⟩⟩ := hP
  have hO := hD.inv.ok
  have hI := hD.inv.ts
  have hSt := hD.inv.st
  have hS := hD.inv.sn
  have hR := hRM.1.2
  have hG := gp_inv hD
  have hb0 := hO.b0
  have hbw := hO.bw
  have hbf : ¬ Fr [] s.heap.size b := fun z => z.elim (fun q => q.elim) (fun q => by omega)
  refine v_aload_n X dL_law_1197 1198 rfl 4 rfl ?_
  refine v_aload_n X dL_law_1198 1199 rfl 5 rfl ?_
  refine v_iload X dL_law_1199 1201 rfl 0 rfl ?_
  refine v_iconst X dL_law_1201 1202 rfl ?_
  refine v_iadd X dL_law_1202 1203 rfl ?_
  refine v_scr X hM hX hbl hbf (by omega) (by omega) hLx ha1 dL_law_1203 1204 rfl ?_
  refine v_aload_n X dL_law_1204 1205 rfl 2 rfl ?_
  refine v_mwS X hM (w_X9_isGuilty l hl E x co hs er fa ss a1 (x + 339) lg hO ga1 q0 q1 (by omega) (by omega)) kwL_isGuilty ksL_isGuilty kl_L_242 (As := [.ref x, .int (zI a1), .ref (x + 339)]) rfl rfl (rm_lawW rfl (by omega) (by omega)) dL_law_1205 1208 rfl (k' := kq + 1) (n' := nq + 6) rfl rfl (fsI (fun q q1 q2 => (Or.inr (by omega)))) ⟨h_cm, h_co, h_out⟩ (fun rv H1 lo1 hM hF hpo => ?_)
  obtain ⟨rfl, hw_0⟩ := hpo
  have h_out : PR E (x + 339) [(x + 339, .inl (E 102 4, 1, .inr (.inl (fun _ => zL (bz (¬ co 4 a1 = 0))))))] H1 := hw_0
  replace hzl := Nat.le_trans hzl hF.1
  replace h_cm := h_cm.kept hF 1 rfl (fsd (by omega))
  replace h_co := h_co.kept hF 28 rfl (fsd (by omega))
  replace h_bf := h_bf.kept hF 28 rfl (fsd (by omega))
  replace h_sv := h_sv.kept hF 28 rfl (fsd (by omega))
  replace h_hi := h_hi.kept hF 2 rfl (fsd (by omega))
  replace h_hf := h_hf.kept hF (fsd (by omega))
  replace h_dk := h_dk.kept hF 3 rfl (fsd (by omega))
  replace h_se := h_se.kept hF 5 rfl (fsd (by omega))
  replace h_pg := h_pg.kept hF 1 rfl (fsd (by omega))
  replace h_sb := h_sb.kept hF 1 rfl (fsd (by omega))
  replace h_sa := h_sa.kept hF 1 rfl (fsd (by omega))
  replace h_pr := h_pr.kept hF 10 rfl (fsd (by omega))
  replace h_ln := h_ln.kept hF 1 rfl (fsd (by omega))
  replace h_la := h_la.kept hF 1 rfl (fsd (by omega))
  replace h_mo := h_mo.kept hF 5 rfl (fsd (by omega))
  replace h_outD := h_outD.kept hF 1 rfl (fsd (by omega))
  show V p l e room_1 s m args below meth cd Q 9 H1 lo1 (kq + 1) (nq + 6) 1208 [(5, .int (zI i)), (4, .ref (x + 340)), (3, .ref (x + 339)), (2, .ref (x + 334)), (1, .ref x), (0, .ref b)] [.int (zI 0)]
  refine v_istore X dL_law_1208 1210 rfl (by decide) (L' := [(6, .int (zI 0)), (5, .int (zI i)), (4, .ref (x + 340)), (3, .ref (x + 339)), (2, .ref (x + 334)), (1, .ref x), (0, .ref b)]) rfl ?_
  refine v_aload_n X dL_law_1210 1211 rfl 4 rfl ?_
  refine v_aload_n X dL_law_1211 1212 rfl 6 rfl ?_
  refine v_iload X dL_law_1212 1214 rfl 1 rfl ?_
  refine v_iconst X dL_law_1214 1215 rfl ?_
  refine v_iadd X dL_law_1215 1216 rfl ?_
  refine v_scr X hM hX hbl hbf (by omega) (by omega) hLx ha1 dL_law_1216 1217 rfl ?_
  refine v_muV X hM (h_mo.1) (c_X10_isGuilty l E (x + 334) mo co a1 hO hR ga1 q0 q1) kvX10_isGuilty kiX10_isGuilty kl_L_244 (q0 := 0) rfl rfl (As := [.int (zI a1)]) rfl rfl (rm_law rfl (by omega) (by omega)) dL_law_1217 1220 rfl (k' := kq + 1) (n' := nq + 6) rfl rfl (fsI (fun q q1 q2 => (Or.inr (by omega)))) h_mo (fun rv H2 lo2 hM hF hpo => ?_)
  obtain ⟨rfl, hw_0⟩ := hpo
  have h_mo : PR E (x + 334) (modelW E (x + 334) (updC mo 0 (updZ (mo 0) 0 0))) H2 := hw_0
  replace hzl := Nat.le_trans hzl hF.1
  replace h_cm := h_cm.kept hF 1 rfl (fsd (by omega))
  replace h_co := h_co.kept hF 28 rfl (fsd (by omega))
  replace h_bf := h_bf.kept hF 28 rfl (fsd (by omega))
  replace h_sv := h_sv.kept hF 28 rfl (fsd (by omega))
  replace h_hi := h_hi.kept hF 2 rfl (fsd (by omega))
  replace h_hf := h_hf.kept hF (fsd (by omega))
  replace h_dk := h_dk.kept hF 3 rfl (fsd (by omega))
  replace h_se := h_se.kept hF 5 rfl (fsd (by omega))
  replace h_pg := h_pg.kept hF 1 rfl (fsd (by omega))
  replace h_sb := h_sb.kept hF 1 rfl (fsd (by omega))
  replace h_sa := h_sa.kept hF 1 rfl (fsd (by omega))
  replace h_pr := h_pr.kept hF 10 rfl (fsd (by omega))
  replace h_ln := h_ln.kept hF 1 rfl (fsd (by omega))
  replace h_la := h_la.kept hF 1 rfl (fsd (by omega))
  replace h_out := h_out.kept hF 1 rfl (fsd (by omega))
  replace h_outD := h_outD.kept hF 1 rfl (fsd (by omega))
  show V p l e room_1 s m args below meth cd Q 9 H2 lo2 (kq + 1) (nq + 6) 1220 [(6, .int (zI 0)), (5, .int (zI i)), (4, .ref (x + 340)), (3, .ref (x + 339)), (2, .ref (x + 334)), (1, .ref x), (0, .ref b)] [.int (zI (bz (¬ co 4 a1 = 0)))]
  refine v_istore X dL_law_1220 1222 rfl (by decide) (L' := [(7, .int (zI (bz (¬ co 4 a1 = 0)))), (6, .int (zI 0)), (5, .int (zI i)), (4, .ref (x + 340)), (3, .ref (x + 339)), (2, .ref (x + 334)), (1, .ref x), (0, .ref b)]) rfl ?_
  refine v_aload_n X dL_law_1222 1223 rfl 5 rfl ?_
  refine v_rdV X hM.C h_mo.1 (c_X10_thrown l E (x + 334) (updC mo 0 (updZ (mo 0) 0 0))) kvX10_thrown kiX10_thrown kl_L_196 rfl rfl (As := []) rfl rfl (rm_law0 rfl (by omega) (by omega)) dL_law_1223 1226 rfl ?_
  show V p l e room_1 s m args below meth cd Q 9 H2 lo2 (kq + 1) (nq + 6) 1226 [(7, .int (zI (bz (¬ co 4 a1 = 0)))), (6, .int (zI 0)), (5, .int (zI i)), (4, .ref (x + 340)), (3, .ref (x + 339)), (2, .ref (x + 334)), (1, .ref x), (0, .ref b)] [.int (zI 0)]
  refine v_iload X dL_law_1226 1228 rfl 1 rfl ?_
  refine v_icmp_eq X (by omega) (by omega) dL_law_1228 1231 1233 rfl (by decide) (fun c_3 => ?_) (fun c_3 => ?_)
  · skip
    refine v_iload X dL_law_1233 1235 rfl 1 rfl ?_
    refine v_if_ne X (by omega) dL_law_1235 1238 1257 rfl (by decide) (fun c_4 => ?_) (fun c_4 => ?_)
    · skip
      exfalso; omega
    · skip
      refine v_aload_n X dL_law_1238 1239 rfl 4 rfl ?_
      refine v_iconst X dL_law_1239 1240 rfl ?_
      refine v_lald X hM.C h_out.1 0 rfl dL_law_1240 1241 rfl ?_
      show V p l e room_1 s m args below meth cd Q 9 H2 lo2 (kq + 1) (nq + 6) 1241 [(7, .int (zI (bz (¬ co 4 a1 = 0)))), (6, .int (zI 0)), (5, .int (zI i)), (4, .ref (x + 340)), (3, .ref (x + 339)), (2, .ref (x + 334)), (1, .ref x), (0, .ref b)] [.long (zL (bz (¬ co 4 a1 = 0)))]
      refine v_iload X dL_law_1241 1243 rfl 0 rfl ?_
      refine v_bif_eq X dL_law_1243 1246 1250 rfl (by decide) (fun c_5 => ?_) (fun c_5 => ?_)
      · skip
        refine v_lconst 0 X dL_law_1250 rfl 1251 rfl ?_
        refine V_S (st' := [.long (zL 0), .long (zL 0)]) (by rw [show (bz (¬ co 4 a1 = 0) : Int) = 0 from bz_f (by first | assumption | omega)]) ?_
        refine v_lcmp0 X dL_law_1251 1252 rfl ?_
        refine v_if_eq X (by omega) dL_law_1252 1255 1257 rfl (by decide) (fun c_6 => ?_) (fun c_6 => ?_)
        · skip
          refine v_goto X dL_law_1257 3555 (by decide) ?_
          refine v_widen (k' := kq + 60) (n' := nq + 4000) (by omega) (by omega) ?_
          exact V_pick [2, 3, 4, 5, 6, 7] rfl (kk _ _ hM ⟨hzl, _, _, _, _, _, _, _, _, _, _, _, _, _, _, _, _, _, _, _, _, _, _, _, _, _, _, _, _, ⟨h_cm, h_co, h_bf, h_sv, h_hi, h_hf, h_dk, h_se, h_pg, h_sb, h_sa, h_pr, h_ln, h_la, h_mo, h_out, h_outD⟩, hP0.mo_0⟩)
        · skip
          exfalso; omega
      · skip
        refine v_lconst 1 X dL_law_1246 rfl 1247 rfl ?_
        refine v_goto X dL_law_1247 1251 (by decide) ?_
        refine V_S (st' := [.long (zL 1), .long (zL 1)]) (by rw [show (bz (¬ co 4 a1 = 0) : Int) = 1 from bz_t (by first | assumption | omega)]) ?_
        refine v_lcmp0 X dL_law_1251 1252 rfl ?_
        refine v_if_eq X (by omega) dL_law_1252 1255 1257 rfl (by decide) (fun c_7 => ?_) (fun c_7 => ?_)
        · skip
          refine v_goto X dL_law_1257 3555 (by decide) ?_
          refine v_widen (k' := kq + 60) (n' := nq + 4000) (by omega) (by omega) ?_
          exact V_pick [2, 3, 4, 5, 6, 7] rfl (kk _ _ hM ⟨hzl, _, _, _, _, _, _, _, _, _, _, _, _, _, _, _, _, _, _, _, _, _, _, _, _, _, _, _, _, ⟨h_cm, h_co, h_bf, h_sv, h_hi, h_hf, h_dk, h_se, h_pg, h_sb, h_sa, h_pr, h_ln, h_la, h_mo, h_out, h_outD⟩, hP0.mo_0⟩)
        · skip
          exfalso; omega
  · skip
    exfalso; omega
set_option maxHeartbeats 4000000 in
set_option maxRecDepth 20000 in
theorem lo_isGuilty_1 (hl : l.stackTraces = false) (X : CF p m cd code 9 s args RL) (hX : va_X b Lx xs s s.heap) (hbl : b < s.heap.size) (hLx : Lx ≤ 2560) (hM : MS E [] s H lo) (hk : kq + 60 ≤ 603072) (hn : nq + 4000 ≤ 7211113) (hx : s.heap.size ≤ x) (hzl : x + 341 ≤ H.size) {v : Nat} {N : Nat} {f : Int → Int} {nn : Int} {v2 : Nat} {N2 : Nat} {f2 : Int → Int} {n2 : Int} {co : Nat → Int → Int} {bf : Nat → Int → Int} {cv : Nat → Int → Int} {hc : Nat → Nat → Int → Int} {nx : Int} {sz : Int} {hs : Int} {er : Int} {fa : Int} {ss : Int} {dk : Nat → Int → Int} {se : Nat → Int → Int} {po : Int} {si : Int} {pr : Nat → Int → Int} {ml : Int} {ml2 : Int} {mo : Nat → Int → Int} {lg : Nat → Int64} {dg : Nat → UInt64} (hW : LawW E x v N f nn v2 N2 f2 n2 co bf cv hc nx sz hs er fa ss dk se po si pr ml ml2 mo lg dg H) (hP : LawP x v N f nn v2 N2 f2 n2 co cv hc nx sz hs er fa ss po si pr mo) (i0 : 0 ≤ i) (i1 : i + 5 ≤ (Lx : Int)) {a1 : Int} (ha1 : (xs (i + 1).toNat).toInt = a1) (ga1 : Rg a1) (q0 : ¬ (0 ≤ a1 ∧ a1 < co 0 0)) (kk : ∀ (H1 : Heap) (lo1 : List Loc), MS E [] s H1 lo1 → LawI E x H1 → V p l e room_1 s m args below meth cd Q 9 H1 lo1 (kq + 60) (nq + 4000) 3555 [(5, .int (zI i)), (4, .ref (x + 340)), (3, .ref (x + 339)), (2, .ref (x + 334)), (1, .ref x), (0, .ref b)] []) : V p l e room_1 s m args below meth cd Q 9 H lo kq nq 1197 [(5, .int (zI i)), (4, .ref (x + 340)), (3, .ref (x + 339)), (2, .ref (x + 334)), (1, .ref x), (0, .ref b)] [] := by
  obtain ⟨h_cm, h_co, h_bf, h_sv, h_hi, h_hf, h_dk, h_se, h_pg, h_sb, h_sa, h_pr, h_ln, h_la, h_mo, h_out, h_outD⟩ := hW
  have hP0 := hP
  obtain ⟨⟨hD, hDv, hDh⟩, ⟨hRM, hch, hcs⟩, ⟨⟨n0, n1⟩, ⟨s0, s1⟩, hhs⟩, ⟨hm8, hnn, hAg, hNN, hnN, hf9⟩, ⟨T, hSB, hLT, hn38⟩, hPB, ⟨her, hfa, hss, ger, gfa, gss, gms⟩, ⟨gpo, gsi⟩, ⟨hv1, hv2, hvv⟩⟩ := hP
  have hO := hD.inv.ok
  have hI := hD.inv.ts
  have hSt := hD.inv.st
  have hS := hD.inv.sn
  have hR := hRM.1.2
  have hG := gp_inv hD
  have hb0 := hO.b0
  have hbw := hO.bw
  have hbf : ¬ Fr [] s.heap.size b := fun z => z.elim (fun q => q.elim) (fun q => by omega)
  refine v_aload_n X dL_law_1197 1198 rfl 4 rfl ?_
  refine v_aload_n X dL_law_1198 1199 rfl 5 rfl ?_
  refine v_iload X dL_law_1199 1201 rfl 0 rfl ?_
  refine v_iconst X dL_law_1201 1202 rfl ?_
  refine v_iadd X dL_law_1202 1203 rfl ?_
  refine v_scr X hM hX hbl hbf (by omega) (by omega) hLx ha1 dL_law_1203 1204 rfl ?_
  refine v_aload_n X dL_law_1204 1205 rfl 2 rfl ?_
  refine v_mwS X hM (w_X9_isGuilty_0_t l hl E x co hs er fa ss a1 (x + 339) lg hO ga1 q0) kwL_isGuilty ksL_isGuilty kl_L_242 (As := [.ref x, .int (zI a1), .ref (x + 339)]) rfl rfl (rm_lawW rfl (by omega) (by omega)) dL_law_1205 1208 rfl (k' := kq + 1) (n' := nq + 6) rfl rfl (fun q hq => hq.elim) ⟨h_cm, h_co, h_out⟩ (fun rv H1 lo1 hM hF hpo => ?_)
  subst hpo
  replace hzl := Nat.le_trans hzl hF.1
  replace h_cm := h_cm.kept hF 1 rfl (fun q _ _ h => h.elim)
  replace h_co := h_co.kept hF 28 rfl (fun q _ _ h => h.elim)
  replace h_bf := h_bf.kept hF 28 rfl (fun q _ _ h => h.elim)
  replace h_sv := h_sv.kept hF 28 rfl (fun q _ _ h => h.elim)
  replace h_hi := h_hi.kept hF 2 rfl (fun q _ _ h => h.elim)
  replace h_hf := h_hf.kept hF (fun q _ _ h => h.elim)
  replace h_dk := h_dk.kept hF 3 rfl (fun q _ _ h => h.elim)
  replace h_se := h_se.kept hF 5 rfl (fun q _ _ h => h.elim)
  replace h_pg := h_pg.kept hF 1 rfl (fun q _ _ h => h.elim)
  replace h_sb := h_sb.kept hF 1 rfl (fun q _ _ h => h.elim)
  replace h_sa := h_sa.kept hF 1 rfl (fun q _ _ h => h.elim)
  replace h_pr := h_pr.kept hF 10 rfl (fun q _ _ h => h.elim)
  replace h_ln := h_ln.kept hF 1 rfl (fun q _ _ h => h.elim)
  replace h_la := h_la.kept hF 1 rfl (fun q _ _ h => h.elim)
  replace h_mo := h_mo.kept hF 5 rfl (fun q _ _ h => h.elim)
  replace h_out := h_out.kept hF 1 rfl (fun q _ _ h => h.elim)
  replace h_outD := h_outD.kept hF 1 rfl (fun q _ _ h => h.elim)
  show V p l e room_1 s m args below meth cd Q 9 H1 lo1 (kq + 1) (nq + 6) 1208 [(5, .int (zI i)), (4, .ref (x + 340)), (3, .ref (x + 339)), (2, .ref (x + 334)), (1, .ref x), (0, .ref b)] [.int (zI 1)]
  refine v_istore X dL_law_1208 1210 rfl (by decide) (L' := [(6, .int (zI 1)), (5, .int (zI i)), (4, .ref (x + 340)), (3, .ref (x + 339)), (2, .ref (x + 334)), (1, .ref x), (0, .ref b)]) rfl ?_
  refine v_aload_n X dL_law_1210 1211 rfl 4 rfl ?_
  refine v_aload_n X dL_law_1211 1212 rfl 6 rfl ?_
  refine v_iload X dL_law_1212 1214 rfl 1 rfl ?_
  refine v_iconst X dL_law_1214 1215 rfl ?_
  refine v_iadd X dL_law_1215 1216 rfl ?_
  refine v_scr X hM hX hbl hbf (by omega) (by omega) hLx ha1 dL_law_1216 1217 rfl ?_
  refine v_muV X hM (h_mo.1) (c_X10_isGuilty_0 l E (x + 334) mo co a1 hO hR ga1 q0) kvX10_isGuilty kiX10_isGuilty kl_L_244 (q0 := 0) rfl rfl (As := [.int (zI a1)]) rfl rfl (rm_law rfl (by omega) (by omega)) dL_law_1217 1220 rfl (k' := kq + 1) (n' := nq + 6) rfl rfl (fsI (fun q q1 q2 => (Or.inr (by omega)))) h_mo (fun rv H2 lo2 hM hF hpo => ?_)
  obtain ⟨rfl, hw_0⟩ := hpo
  have h_mo : PR E (x + 334) (modelW E (x + 334) (updC mo 0 (updZ (mo 0) 0 1))) H2 := hw_0
  replace hzl := Nat.le_trans hzl hF.1
  replace h_cm := h_cm.kept hF 1 rfl (fsd (by omega))
  replace h_co := h_co.kept hF 28 rfl (fsd (by omega))
  replace h_bf := h_bf.kept hF 28 rfl (fsd (by omega))
  replace h_sv := h_sv.kept hF 28 rfl (fsd (by omega))
  replace h_hi := h_hi.kept hF 2 rfl (fsd (by omega))
  replace h_hf := h_hf.kept hF (fsd (by omega))
  replace h_dk := h_dk.kept hF 3 rfl (fsd (by omega))
  replace h_se := h_se.kept hF 5 rfl (fsd (by omega))
  replace h_pg := h_pg.kept hF 1 rfl (fsd (by omega))
  replace h_sb := h_sb.kept hF 1 rfl (fsd (by omega))
  replace h_sa := h_sa.kept hF 1 rfl (fsd (by omega))
  replace h_pr := h_pr.kept hF 10 rfl (fsd (by omega))
  replace h_ln := h_ln.kept hF 1 rfl (fsd (by omega))
  replace h_la := h_la.kept hF 1 rfl (fsd (by omega))
  replace h_out := h_out.kept hF 1 rfl (fsd (by omega))
  replace h_outD := h_outD.kept hF 1 rfl (fsd (by omega))
  show V p l e room_1 s m args below meth cd Q 9 H2 lo2 (kq + 1) (nq + 6) 1220 [(6, .int (zI 1)), (5, .int (zI i)), (4, .ref (x + 340)), (3, .ref (x + 339)), (2, .ref (x + 334)), (1, .ref x), (0, .ref b)] [.int (zI 0)]
  refine v_istore X dL_law_1220 1222 rfl (by decide) (L' := [(7, .int (zI 0)), (6, .int (zI 1)), (5, .int (zI i)), (4, .ref (x + 340)), (3, .ref (x + 339)), (2, .ref (x + 334)), (1, .ref x), (0, .ref b)]) rfl ?_
  refine v_aload_n X dL_law_1222 1223 rfl 5 rfl ?_
  refine v_rdV X hM.C h_mo.1 (c_X10_thrown l E (x + 334) (updC mo 0 (updZ (mo 0) 0 1))) kvX10_thrown kiX10_thrown kl_L_196 rfl rfl (As := []) rfl rfl (rm_law0 rfl (by omega) (by omega)) dL_law_1223 1226 rfl ?_
  show V p l e room_1 s m args below meth cd Q 9 H2 lo2 (kq + 1) (nq + 6) 1226 [(7, .int (zI 0)), (6, .int (zI 1)), (5, .int (zI i)), (4, .ref (x + 340)), (3, .ref (x + 339)), (2, .ref (x + 334)), (1, .ref x), (0, .ref b)] [.int (zI 1)]
  refine v_iload X dL_law_1226 1228 rfl 1 rfl ?_
  refine v_icmp_eq X (by omega) (by omega) dL_law_1228 1231 1233 rfl (by decide) (fun c_3 => ?_) (fun c_3 => ?_)
  · skip
    refine v_iload X dL_law_1233 1235 rfl 1 rfl ?_
    refine v_if_ne X (by omega) dL_law_1235 1238 1257 rfl (by decide) (fun c_4 => ?_) (fun c_4 => ?_)
    · skip
      refine v_goto X dL_law_1257 3555 (by decide) ?_
      refine v_widen (k' := kq + 60) (n' := nq + 4000) (by omega) (by omega) ?_
      exact V_pick [2, 3, 4, 5, 6, 7] rfl (kk _ _ hM ⟨hzl, _, _, _, _, _, _, _, _, _, _, _, _, _, _, _, _, _, _, _, _, _, _, _, _, _, _, _, _, ⟨h_cm, h_co, h_bf, h_sv, h_hi, h_hf, h_dk, h_se, h_pg, h_sb, h_sa, h_pr, h_ln, h_la, h_mo, h_out, h_outD⟩, hP0.mo_0⟩)
    · skip
      exfalso; omega
  · skip
    exfalso; omega
set_option maxHeartbeats 4000000 in
set_option maxRecDepth 20000 in
theorem lo_isGuilty_2 (hl : l.stackTraces = false) (X : CF p m cd code 9 s args RL) (hX : va_X b Lx xs s s.heap) (hbl : b < s.heap.size) (hLx : Lx ≤ 2560) (hM : MS E [] s H lo) (hk : kq + 60 ≤ 603072) (hn : nq + 4000 ≤ 7211113) (hx : s.heap.size ≤ x) (hzl : x + 341 ≤ H.size) {v : Nat} {N : Nat} {f : Int → Int} {nn : Int} {v2 : Nat} {N2 : Nat} {f2 : Int → Int} {n2 : Int} {co : Nat → Int → Int} {bf : Nat → Int → Int} {cv : Nat → Int → Int} {hc : Nat → Nat → Int → Int} {nx : Int} {sz : Int} {hs : Int} {er : Int} {fa : Int} {ss : Int} {dk : Nat → Int → Int} {se : Nat → Int → Int} {po : Int} {si : Int} {pr : Nat → Int → Int} {ml : Int} {ml2 : Int} {mo : Nat → Int → Int} {lg : Nat → Int64} {dg : Nat → UInt64} (hW : LawW E x v N f nn v2 N2 f2 n2 co bf cv hc nx sz hs er fa ss dk se po si pr ml ml2 mo lg dg H) (hP : LawP x v N f nn v2 N2 f2 n2 co cv hc nx sz hs er fa ss po si pr mo) (i0 : 0 ≤ i) (i1 : i + 5 ≤ (Lx : Int)) {a1 : Int} (ha1 : (xs (i + 1).toNat).toInt = a1) (ga1 : Rg a1) (q0 : 0 ≤ a1 ∧ a1 < co 0 0) (q1 : ¬ (¬ co 3 a1 = 0)) (kk : ∀ (H1 : Heap) (lo1 : List Loc), MS E [] s H1 lo1 → LawI E x H1 → V p l e room_1 s m args below meth cd Q 9 H1 lo1 (kq + 60) (nq + 4000) 3555 [(5, .int (zI i)), (4, .ref (x + 340)), (3, .ref (x + 339)), (2, .ref (x + 334)), (1, .ref x), (0, .ref b)] []) : V p l e room_1 s m args below meth cd Q 9 H lo kq nq 1197 [(5, .int (zI i)), (4, .ref (x + 340)), (3, .ref (x + 339)), (2, .ref (x + 334)), (1, .ref x), (0, .ref b)] [] := by
  obtain ⟨h_cm, h_co, h_bf, h_sv, h_hi, h_hf, h_dk, h_se, h_pg, h_sb, h_sa, h_pr, h_ln, h_la, h_mo, h_out, h_outD⟩ := hW
  have hP0 := hP
  obtain ⟨⟨hD, hDv, hDh⟩, ⟨hRM, hch, hcs⟩, ⟨⟨n0, n1⟩, ⟨s0, s1⟩, hhs⟩, ⟨hm8, hnn, hAg, hNN, hnN, hf9⟩, ⟨T, hSB, hLT, hn38⟩, hPB, ⟨her, hfa, hss, ger, gfa, gss, gms⟩, ⟨gpo, gsi⟩, ⟨hv1, hv2, hvv⟩⟩ := hP
  have hO := hD.inv.ok
  have hI := hD.inv.ts
  have hSt := hD.inv.st
  have hS := hD.inv.sn
  have hR := hRM.1.2
  have hG := gp_inv hD
  have hb0 := hO.b0
  have hbw := hO.bw
  have hbf : ¬ Fr [] s.heap.size b := fun z => z.elim (fun q => q.elim) (fun q => by omega)
  refine v_aload_n X dL_law_1197 1198 rfl 4 rfl ?_
  refine v_aload_n X dL_law_1198 1199 rfl 5 rfl ?_
  refine v_iload X dL_law_1199 1201 rfl 0 rfl ?_
  refine v_iconst X dL_law_1201 1202 rfl ?_
  refine v_iadd X dL_law_1202 1203 rfl ?_
  refine v_scr X hM hX hbl hbf (by omega) (by omega) hLx ha1 dL_law_1203 1204 rfl ?_
  refine v_aload_n X dL_law_1204 1205 rfl 2 rfl ?_
  refine v_mwS X hM (w_X9_isGuilty_1_t l hl E x co hs er fa ss a1 (x + 339) lg hO ga1 q0 q1) kwL_isGuilty ksL_isGuilty kl_L_242 (As := [.ref x, .int (zI a1), .ref (x + 339)]) rfl rfl (rm_lawW rfl (by omega) (by omega)) dL_law_1205 1208 rfl (k' := kq + 1) (n' := nq + 6) rfl rfl (fun q hq => hq.elim) ⟨h_cm, h_co, h_out⟩ (fun rv H1 lo1 hM hF hpo => ?_)
  subst hpo
  replace hzl := Nat.le_trans hzl hF.1
  replace h_cm := h_cm.kept hF 1 rfl (fun q _ _ h => h.elim)
  replace h_co := h_co.kept hF 28 rfl (fun q _ _ h => h.elim)
  replace h_bf := h_bf.kept hF 28 rfl (fun q _ _ h => h.elim)
  replace h_sv := h_sv.kept hF 28 rfl (fun q _ _ h => h.elim)
  replace h_hi := h_hi.kept hF 2 rfl (fun q _ _ h => h.elim)
  replace h_hf := h_hf.kept hF (fun q _ _ h => h.elim)
  replace h_dk := h_dk.kept hF 3 rfl (fun q _ _ h => h.elim)
  replace h_se := h_se.kept hF 5 rfl (fun q _ _ h => h.elim)
  replace h_pg := h_pg.kept hF 1 rfl (fun q _ _ h => h.elim)
  replace h_sb := h_sb.kept hF 1 rfl (fun q _ _ h => h.elim)
  replace h_sa := h_sa.kept hF 1 rfl (fun q _ _ h => h.elim)
  replace h_pr := h_pr.kept hF 10 rfl (fun q _ _ h => h.elim)
  replace h_ln := h_ln.kept hF 1 rfl (fun q _ _ h => h.elim)
  replace h_la := h_la.kept hF 1 rfl (fun q _ _ h => h.elim)
  replace h_mo := h_mo.kept hF 5 rfl (fun q _ _ h => h.elim)
  replace h_out := h_out.kept hF 1 rfl (fun q _ _ h => h.elim)
  replace h_outD := h_outD.kept hF 1 rfl (fun q _ _ h => h.elim)
  show V p l e room_1 s m args below meth cd Q 9 H1 lo1 (kq + 1) (nq + 6) 1208 [(5, .int (zI i)), (4, .ref (x + 340)), (3, .ref (x + 339)), (2, .ref (x + 334)), (1, .ref x), (0, .ref b)] [.int (zI 2)]
  refine v_istore X dL_law_1208 1210 rfl (by decide) (L' := [(6, .int (zI 2)), (5, .int (zI i)), (4, .ref (x + 340)), (3, .ref (x + 339)), (2, .ref (x + 334)), (1, .ref x), (0, .ref b)]) rfl ?_
  refine v_aload_n X dL_law_1210 1211 rfl 4 rfl ?_
  refine v_aload_n X dL_law_1211 1212 rfl 6 rfl ?_
  refine v_iload X dL_law_1212 1214 rfl 1 rfl ?_
  refine v_iconst X dL_law_1214 1215 rfl ?_
  refine v_iadd X dL_law_1215 1216 rfl ?_
  refine v_scr X hM hX hbl hbf (by omega) (by omega) hLx ha1 dL_law_1216 1217 rfl ?_
  refine v_muV X hM (h_mo.1) (c_X10_isGuilty_1 l E (x + 334) mo co a1 hO hR ga1 q0 q1) kvX10_isGuilty kiX10_isGuilty kl_L_244 (q0 := 0) rfl rfl (As := [.int (zI a1)]) rfl rfl (rm_law rfl (by omega) (by omega)) dL_law_1217 1220 rfl (k' := kq + 1) (n' := nq + 6) rfl rfl (fsI (fun q q1 q2 => (Or.inr (by omega)))) h_mo (fun rv H2 lo2 hM hF hpo => ?_)
  obtain ⟨rfl, hw_0⟩ := hpo
  have h_mo : PR E (x + 334) (modelW E (x + 334) (updC mo 0 (updZ (mo 0) 0 2))) H2 := hw_0
  replace hzl := Nat.le_trans hzl hF.1
  replace h_cm := h_cm.kept hF 1 rfl (fsd (by omega))
  replace h_co := h_co.kept hF 28 rfl (fsd (by omega))
  replace h_bf := h_bf.kept hF 28 rfl (fsd (by omega))
  replace h_sv := h_sv.kept hF 28 rfl (fsd (by omega))
  replace h_hi := h_hi.kept hF 2 rfl (fsd (by omega))
  replace h_hf := h_hf.kept hF (fsd (by omega))
  replace h_dk := h_dk.kept hF 3 rfl (fsd (by omega))
  replace h_se := h_se.kept hF 5 rfl (fsd (by omega))
  replace h_pg := h_pg.kept hF 1 rfl (fsd (by omega))
  replace h_sb := h_sb.kept hF 1 rfl (fsd (by omega))
  replace h_sa := h_sa.kept hF 1 rfl (fsd (by omega))
  replace h_pr := h_pr.kept hF 10 rfl (fsd (by omega))
  replace h_ln := h_ln.kept hF 1 rfl (fsd (by omega))
  replace h_la := h_la.kept hF 1 rfl (fsd (by omega))
  replace h_out := h_out.kept hF 1 rfl (fsd (by omega))
  replace h_outD := h_outD.kept hF 1 rfl (fsd (by omega))
  show V p l e room_1 s m args below meth cd Q 9 H2 lo2 (kq + 1) (nq + 6) 1220 [(6, .int (zI 2)), (5, .int (zI i)), (4, .ref (x + 340)), (3, .ref (x + 339)), (2, .ref (x + 334)), (1, .ref x), (0, .ref b)] [.int (zI 0)]
  refine v_istore X dL_law_1220 1222 rfl (by decide) (L' := [(7, .int (zI 0)), (6, .int (zI 2)), (5, .int (zI i)), (4, .ref (x + 340)), (3, .ref (x + 339)), (2, .ref (x + 334)), (1, .ref x), (0, .ref b)]) rfl ?_
  refine v_aload_n X dL_law_1222 1223 rfl 5 rfl ?_
  refine v_rdV X hM.C h_mo.1 (c_X10_thrown l E (x + 334) (updC mo 0 (updZ (mo 0) 0 2))) kvX10_thrown kiX10_thrown kl_L_196 rfl rfl (As := []) rfl rfl (rm_law0 rfl (by omega) (by omega)) dL_law_1223 1226 rfl ?_
  show V p l e room_1 s m args below meth cd Q 9 H2 lo2 (kq + 1) (nq + 6) 1226 [(7, .int (zI 0)), (6, .int (zI 2)), (5, .int (zI i)), (4, .ref (x + 340)), (3, .ref (x + 339)), (2, .ref (x + 334)), (1, .ref x), (0, .ref b)] [.int (zI 2)]
  refine v_iload X dL_law_1226 1228 rfl 1 rfl ?_
  refine v_icmp_eq X (by omega) (by omega) dL_law_1228 1231 1233 rfl (by decide) (fun c_3 => ?_) (fun c_3 => ?_)
  · skip
    refine v_iload X dL_law_1233 1235 rfl 1 rfl ?_
    refine v_if_ne X (by omega) dL_law_1235 1238 1257 rfl (by decide) (fun c_4 => ?_) (fun c_4 => ?_)
    · skip
      refine v_goto X dL_law_1257 3555 (by decide) ?_
      refine v_widen (k' := kq + 60) (n' := nq + 4000) (by omega) (by omega) ?_
      exact V_pick [2, 3, 4, 5, 6, 7] rfl (kk _ _ hM ⟨hzl, _, _, _, _, _, _, _, _, _, _, _, _, _, _, _, _, _, _, _, _, _, _, _, _, _, _, _, _, ⟨h_cm, h_co, h_bf, h_sv, h_hi, h_hf, h_dk, h_se, h_pg, h_sb, h_sa, h_pr, h_ln, h_la, h_mo, h_out, h_outD⟩, hP0.mo_0⟩)
    · skip
      exfalso; omega
  · skip
    exfalso; omega
set_option maxHeartbeats 4000000 in
set_option maxRecDepth 20000 in
theorem lo_appealCount (hl : l.stackTraces = false) (X : CF p m cd code 9 s args RL) (hX : va_X b Lx xs s s.heap) (hbl : b < s.heap.size) (hLx : Lx ≤ 2560) (hM : MS E [] s H lo) (hk : kq + 60 ≤ 603072) (hn : nq + 4000 ≤ 7211113) (hx : s.heap.size ≤ x) (hzl : x + 341 ≤ H.size) {v : Nat} {N : Nat} {f : Int → Int} {nn : Int} {v2 : Nat} {N2 : Nat} {f2 : Int → Int} {n2 : Int} {co : Nat → Int → Int} {bf : Nat → Int → Int} {cv : Nat → Int → Int} {hc : Nat → Nat → Int → Int} {nx : Int} {sz : Int} {hs : Int} {er : Int} {fa : Int} {ss : Int} {dk : Nat → Int → Int} {se : Nat → Int → Int} {po : Int} {si : Int} {pr : Nat → Int → Int} {ml : Int} {ml2 : Int} {mo : Nat → Int → Int} {lg : Nat → Int64} {dg : Nat → UInt64} (hW : LawW E x v N f nn v2 N2 f2 n2 co bf cv hc nx sz hs er fa ss dk se po si pr ml ml2 mo lg dg H) (hP : LawP x v N f nn v2 N2 f2 n2 co cv hc nx sz hs er fa ss po si pr mo) (i0 : 0 ≤ i) (i1 : i + 5 ≤ (Lx : Int)) {a1 : Int} (ha1 : (xs (i + 1).toNat).toInt = a1) (ga1 : Rg a1) (q0 : 0 ≤ a1 ∧ a1 < co 0 0) (kk : ∀ (H1 : Heap) (lo1 : List Loc), MS E [] s H1 lo1 → LawI E x H1 → V p l e room_1 s m args below meth cd Q 9 H1 lo1 (kq + 60) (nq + 4000) 3555 [(5, .int (zI i)), (4, .ref (x + 340)), (3, .ref (x + 339)), (2, .ref (x + 334)), (1, .ref x), (0, .ref b)] []) : V p l e room_1 s m args below meth cd Q 9 H lo kq nq 1260 [(5, .int (zI i)), (4, .ref (x + 340)), (3, .ref (x + 339)), (2, .ref (x + 334)), (1, .ref x), (0, .ref b)] [] := by
  obtain ⟨h_cm, h_co, h_bf, h_sv, h_hi, h_hf, h_dk, h_se, h_pg, h_sb, h_sa, h_pr, h_ln, h_la, h_mo, h_out, h_outD⟩ := hW
  have hP0 := hP
  obtain ⟨⟨hD, hDv, hDh⟩, ⟨hRM, hch, hcs⟩, ⟨⟨n0, n1⟩, ⟨s0, s1⟩, hhs⟩, ⟨hm8, hnn, hAg, hNN, hnN, hf9⟩, ⟨T, hSB, hLT, hn38⟩, hPB, ⟨her, hfa, hss, ger, gfa, gss, gms⟩, ⟨gpo, gsi⟩, ⟨hv1, hv2, hvv⟩⟩ := hP
  have hO := hD.inv.ok
  have hI := hD.inv.ts
  have hSt := hD.inv.st
  have hS := hD.inv.sn
  have hR := hRM.1.2
  have hG := gp_inv hD
  have hb0 := hO.b0
  have hbw := hO.bw
  have hbf : ¬ Fr [] s.heap.size b := fun z => z.elim (fun q => q.elim) (fun q => by omega)
  refine v_aload_n X dL_law_1260 1261 rfl 4 rfl ?_
  refine v_aload_n X dL_law_1261 1262 rfl 5 rfl ?_
  refine v_iload X dL_law_1262 1264 rfl 0 rfl ?_
  refine v_iconst X dL_law_1264 1265 rfl ?_
  refine v_iadd X dL_law_1265 1266 rfl ?_
  refine v_scr X hM hX hbl hbf (by omega) (by omega) hLx ha1 dL_law_1266 1267 rfl ?_
  refine v_aload_n X dL_law_1267 1268 rfl 2 rfl ?_
  refine v_mwS X hM (w_X9_appealCount l hl E x co hs er fa ss a1 (x + 339) lg hO ga1 q0 (by omega) (by omega)) kwL_appealCount ksL_appealCount kl_L_245 (As := [.ref x, .int (zI a1), .ref (x + 339)]) rfl rfl (rm_lawW rfl (by omega) (by omega)) dL_law_1268 1271 rfl (k' := kq + 1) (n' := nq + 6) rfl rfl (fsI (fun q q1 q2 => (Or.inr (by omega)))) ⟨h_cm, h_co, h_out⟩ (fun rv H1 lo1 hM hF hpo => ?_)
  obtain ⟨rfl, hw_0⟩ := hpo
  have h_out : PR E (x + 339) [(x + 339, .inl (E 102 4, 1, .inr (.inl (fun _ => zL (co 5 a1)))))] H1 := hw_0
  replace hzl := Nat.le_trans hzl hF.1
  replace h_cm := h_cm.kept hF 1 rfl (fsd (by omega))
  replace h_co := h_co.kept hF 28 rfl (fsd (by omega))
  replace h_bf := h_bf.kept hF 28 rfl (fsd (by omega))
  replace h_sv := h_sv.kept hF 28 rfl (fsd (by omega))
  replace h_hi := h_hi.kept hF 2 rfl (fsd (by omega))
  replace h_hf := h_hf.kept hF (fsd (by omega))
  replace h_dk := h_dk.kept hF 3 rfl (fsd (by omega))
  replace h_se := h_se.kept hF 5 rfl (fsd (by omega))
  replace h_pg := h_pg.kept hF 1 rfl (fsd (by omega))
  replace h_sb := h_sb.kept hF 1 rfl (fsd (by omega))
  replace h_sa := h_sa.kept hF 1 rfl (fsd (by omega))
  replace h_pr := h_pr.kept hF 10 rfl (fsd (by omega))
  replace h_ln := h_ln.kept hF 1 rfl (fsd (by omega))
  replace h_la := h_la.kept hF 1 rfl (fsd (by omega))
  replace h_mo := h_mo.kept hF 5 rfl (fsd (by omega))
  replace h_outD := h_outD.kept hF 1 rfl (fsd (by omega))
  show V p l e room_1 s m args below meth cd Q 9 H1 lo1 (kq + 1) (nq + 6) 1271 [(5, .int (zI i)), (4, .ref (x + 340)), (3, .ref (x + 339)), (2, .ref (x + 334)), (1, .ref x), (0, .ref b)] [.int (zI 0)]
  refine v_istore X dL_law_1271 1273 rfl (by decide) (L' := [(6, .int (zI 0)), (5, .int (zI i)), (4, .ref (x + 340)), (3, .ref (x + 339)), (2, .ref (x + 334)), (1, .ref x), (0, .ref b)]) rfl ?_
  refine v_aload_n X dL_law_1273 1274 rfl 4 rfl ?_
  refine v_aload_n X dL_law_1274 1275 rfl 6 rfl ?_
  refine v_iload X dL_law_1275 1277 rfl 1 rfl ?_
  refine v_iconst X dL_law_1277 1278 rfl ?_
  refine v_iadd X dL_law_1278 1279 rfl ?_
  refine v_scr X hM hX hbl hbf (by omega) (by omega) hLx ha1 dL_law_1279 1280 rfl ?_
  refine v_muV X hM (h_mo.1) (c_X10_appealCount l E (x + 334) mo co a1 hO hR ga1 q0) kvX10_appealCount kiX10_appealCount kl_L_247 (q0 := 0) rfl rfl (As := [.int (zI a1)]) rfl rfl (rm_law rfl (by omega) (by omega)) dL_law_1280 1283 rfl (k' := kq + 1) (n' := nq + 6) rfl rfl (fsI (fun q q1 q2 => (Or.inr (by omega)))) h_mo (fun rv H2 lo2 hM hF hpo => ?_)
  obtain ⟨rfl, hw_0⟩ := hpo
  have h_mo : PR E (x + 334) (modelW E (x + 334) (updC mo 0 (updZ (mo 0) 0 0))) H2 := hw_0
  replace hzl := Nat.le_trans hzl hF.1
  replace h_cm := h_cm.kept hF 1 rfl (fsd (by omega))
  replace h_co := h_co.kept hF 28 rfl (fsd (by omega))
  replace h_bf := h_bf.kept hF 28 rfl (fsd (by omega))
  replace h_sv := h_sv.kept hF 28 rfl (fsd (by omega))
  replace h_hi := h_hi.kept hF 2 rfl (fsd (by omega))
  replace h_hf := h_hf.kept hF (fsd (by omega))
  replace h_dk := h_dk.kept hF 3 rfl (fsd (by omega))
  replace h_se := h_se.kept hF 5 rfl (fsd (by omega))
  replace h_pg := h_pg.kept hF 1 rfl (fsd (by omega))
  replace h_sb := h_sb.kept hF 1 rfl (fsd (by omega))
  replace h_sa := h_sa.kept hF 1 rfl (fsd (by omega))
  replace h_pr := h_pr.kept hF 10 rfl (fsd (by omega))
  replace h_ln := h_ln.kept hF 1 rfl (fsd (by omega))
  replace h_la := h_la.kept hF 1 rfl (fsd (by omega))
  replace h_out := h_out.kept hF 1 rfl (fsd (by omega))
  replace h_outD := h_outD.kept hF 1 rfl (fsd (by omega))
  show V p l e room_1 s m args below meth cd Q 9 H2 lo2 (kq + 1) (nq + 6) 1283 [(6, .int (zI 0)), (5, .int (zI i)), (4, .ref (x + 340)), (3, .ref (x + 339)), (2, .ref (x + 334)), (1, .ref x), (0, .ref b)] [.int (zI (co 5 a1))]
  refine v_istore X dL_law_1283 1285 rfl (by decide) (L' := [(7, .int (zI (co 5 a1))), (6, .int (zI 0)), (5, .int (zI i)), (4, .ref (x + 340)), (3, .ref (x + 339)), (2, .ref (x + 334)), (1, .ref x), (0, .ref b)]) rfl ?_
  refine v_aload_n X dL_law_1285 1286 rfl 5 rfl ?_
  refine v_rdV X hM.C h_mo.1 (c_X10_thrown l E (x + 334) (updC mo 0 (updZ (mo 0) 0 0))) kvX10_thrown kiX10_thrown kl_L_196 rfl rfl (As := []) rfl rfl (rm_law0 rfl (by omega) (by omega)) dL_law_1286 1289 rfl ?_
  show V p l e room_1 s m args below meth cd Q 9 H2 lo2 (kq + 1) (nq + 6) 1289 [(7, .int (zI (co 5 a1))), (6, .int (zI 0)), (5, .int (zI i)), (4, .ref (x + 340)), (3, .ref (x + 339)), (2, .ref (x + 334)), (1, .ref x), (0, .ref b)] [.int (zI 0)]
  refine v_iload X dL_law_1289 1291 rfl 1 rfl ?_
  refine v_icmp_eq X (by omega) (by omega) dL_law_1291 1294 1296 rfl (by decide) (fun c_3 => ?_) (fun c_3 => ?_)
  · skip
    refine v_iload X dL_law_1296 1298 rfl 1 rfl ?_
    refine v_if_ne X (by omega) dL_law_1298 1301 1313 rfl (by decide) (fun c_4 => ?_) (fun c_4 => ?_)
    · skip
      exfalso; omega
    · skip
      refine v_aload_n X dL_law_1301 1302 rfl 4 rfl ?_
      refine v_iconst X dL_law_1302 1303 rfl ?_
      refine v_lald X hM.C h_out.1 0 rfl dL_law_1303 1304 rfl ?_
      show V p l e room_1 s m args below meth cd Q 9 H2 lo2 (kq + 1) (nq + 6) 1304 [(7, .int (zI (co 5 a1))), (6, .int (zI 0)), (5, .int (zI i)), (4, .ref (x + 340)), (3, .ref (x + 339)), (2, .ref (x + 334)), (1, .ref x), (0, .ref b)] [.long (zL (co 5 a1))]
      refine v_iload X dL_law_1304 1306 rfl 0 rfl ?_
      refine v_i2l X dL_law_1306 1307 rfl ?_
      refine v_lcmp0 X dL_law_1307 1308 rfl ?_
      refine v_if_eq X (by omega) dL_law_1308 1311 1313 rfl (by decide) (fun c_5 => ?_) (fun c_5 => ?_)
      · skip
        refine v_goto X dL_law_1313 3555 (by decide) ?_
        refine v_widen (k' := kq + 60) (n' := nq + 4000) (by omega) (by omega) ?_
        exact V_pick [2, 3, 4, 5, 6, 7] rfl (kk _ _ hM ⟨hzl, _, _, _, _, _, _, _, _, _, _, _, _, _, _, _, _, _, _, _, _, _, _, _, _, _, _, _, _, ⟨h_cm, h_co, h_bf, h_sv, h_hi, h_hf, h_dk, h_se, h_pg, h_sb, h_sa, h_pr, h_ln, h_la, h_mo, h_out, h_outD⟩, hP0.mo_0⟩)
      · skip
        exfalso; omega
  · skip
    exfalso; omega
set_option maxHeartbeats 4000000 in
set_option maxRecDepth 20000 in
theorem lo_appealCount_1 (hl : l.stackTraces = false) (X : CF p m cd code 9 s args RL) (hX : va_X b Lx xs s s.heap) (hbl : b < s.heap.size) (hLx : Lx ≤ 2560) (hM : MS E [] s H lo) (hk : kq + 60 ≤ 603072) (hn : nq + 4000 ≤ 7211113) (hx : s.heap.size ≤ x) (hzl : x + 341 ≤ H.size) {v : Nat} {N : Nat} {f : Int → Int} {nn : Int} {v2 : Nat} {N2 : Nat} {f2 : Int → Int} {n2 : Int} {co : Nat → Int → Int} {bf : Nat → Int → Int} {cv : Nat → Int → Int} {hc : Nat → Nat → Int → Int} {nx : Int} {sz : Int} {hs : Int} {er : Int} {fa : Int} {ss : Int} {dk : Nat → Int → Int} {se : Nat → Int → Int} {po : Int} {si : Int} {pr : Nat → Int → Int} {ml : Int} {ml2 : Int} {mo : Nat → Int → Int} {lg : Nat → Int64} {dg : Nat → UInt64} (hW : LawW E x v N f nn v2 N2 f2 n2 co bf cv hc nx sz hs er fa ss dk se po si pr ml ml2 mo lg dg H) (hP : LawP x v N f nn v2 N2 f2 n2 co cv hc nx sz hs er fa ss po si pr mo) (i0 : 0 ≤ i) (i1 : i + 5 ≤ (Lx : Int)) {a1 : Int} (ha1 : (xs (i + 1).toNat).toInt = a1) (ga1 : Rg a1) (q0 : ¬ (0 ≤ a1 ∧ a1 < co 0 0)) (kk : ∀ (H1 : Heap) (lo1 : List Loc), MS E [] s H1 lo1 → LawI E x H1 → V p l e room_1 s m args below meth cd Q 9 H1 lo1 (kq + 60) (nq + 4000) 3555 [(5, .int (zI i)), (4, .ref (x + 340)), (3, .ref (x + 339)), (2, .ref (x + 334)), (1, .ref x), (0, .ref b)] []) : V p l e room_1 s m args below meth cd Q 9 H lo kq nq 1260 [(5, .int (zI i)), (4, .ref (x + 340)), (3, .ref (x + 339)), (2, .ref (x + 334)), (1, .ref x), (0, .ref b)] [] := by
  obtain ⟨h_cm, h_co, h_bf, h_sv, h_hi, h_hf, h_dk, h_se, h_pg, h_sb, h_sa, h_pr, h_ln, h_la, h_mo, h_out, h_outD⟩ := hW
  have hP0 := hP
  obtain ⟨⟨hD, hDv, hDh⟩, ⟨hRM, hch, hcs⟩, ⟨⟨n0, n1⟩, ⟨s0, s1⟩, hhs⟩, ⟨hm8, hnn, hAg, hNN, hnN, hf9⟩, ⟨T, hSB, hLT, hn38⟩, hPB, ⟨her, hfa, hss, ger, gfa, gss, gms⟩, ⟨gpo, gsi⟩, ⟨hv1, hv2, hvv⟩⟩ := hP
  have hO := hD.inv.ok
  have hI := hD.inv.ts
  have hSt := hD.inv.st
  have hS := hD.inv.sn
  have hR := hRM.1.2
  have hG := gp_inv hD
  have hb0 := hO.b0
  have hbw := hO.bw
  have hbf : ¬ Fr [] s.heap.size b := fun z => z.elim (fun q => q.elim) (fun q => by omega)
  refine v_aload_n X dL_law_1260 1261 rfl 4 rfl ?_
  refine v_aload_n X dL_law_1261 1262 rfl 5 rfl ?_
  refine v_iload X dL_law_1262 1264 rfl 0 rfl ?_
  refine v_iconst X dL_law_1264 1265 rfl ?_
  refine v_iadd X dL_law_1265 1266 rfl ?_
  refine v_scr X hM hX hbl hbf (by omega) (by omega) hLx ha1 dL_law_1266 1267 rfl ?_
  refine v_aload_n X dL_law_1267 1268 rfl 2 rfl ?_
  refine v_mwS X hM (w_X9_appealCount_0_t l hl E x co hs er fa ss a1 (x + 339) lg hO ga1 q0) kwL_appealCount ksL_appealCount kl_L_245 (As := [.ref x, .int (zI a1), .ref (x + 339)]) rfl rfl (rm_lawW rfl (by omega) (by omega)) dL_law_1268 1271 rfl (k' := kq + 1) (n' := nq + 6) rfl rfl (fun q hq => hq.elim) ⟨h_cm, h_co, h_out⟩ (fun rv H1 lo1 hM hF hpo => ?_)
  subst hpo
  replace hzl := Nat.le_trans hzl hF.1
  replace h_cm := h_cm.kept hF 1 rfl (fun q _ _ h => h.elim)
  replace h_co := h_co.kept hF 28 rfl (fun q _ _ h => h.elim)
  replace h_bf := h_bf.kept hF 28 rfl (fun q _ _ h => h.elim)
  replace h_sv := h_sv.kept hF 28 rfl (fun q _ _ h => h.elim)
  replace h_hi := h_hi.kept hF 2 rfl (fun q _ _ h => h.elim)
  replace h_hf := h_hf.kept hF (fun q _ _ h => h.elim)
  replace h_dk := h_dk.kept hF 3 rfl (fun q _ _ h => h.elim)
  replace h_se := h_se.kept hF 5 rfl (fun q _ _ h => h.elim)
  replace h_pg := h_pg.kept hF 1 rfl (fun q _ _ h => h.elim)
  replace h_sb := h_sb.kept hF 1 rfl (fun q _ _ h => h.elim)
  replace h_sa := h_sa.kept hF 1 rfl (fun q _ _ h => h.elim)
  replace h_pr := h_pr.kept hF 10 rfl (fun q _ _ h => h.elim)
  replace h_ln := h_ln.kept hF 1 rfl (fun q _ _ h => h.elim)
  replace h_la := h_la.kept hF 1 rfl (fun q _ _ h => h.elim)
  replace h_mo := h_mo.kept hF 5 rfl (fun q _ _ h => h.elim)
  replace h_out := h_out.kept hF 1 rfl (fun q _ _ h => h.elim)
  replace h_outD := h_outD.kept hF 1 rfl (fun q _ _ h => h.elim)
  show V p l e room_1 s m args below meth cd Q 9 H1 lo1 (kq + 1) (nq + 6) 1271 [(5, .int (zI i)), (4, .ref (x + 340)), (3, .ref (x + 339)), (2, .ref (x + 334)), (1, .ref x), (0, .ref b)] [.int (zI 1)]
  refine v_istore X dL_law_1271 1273 rfl (by decide) (L' := [(6, .int (zI 1)), (5, .int (zI i)), (4, .ref (x + 340)), (3, .ref (x + 339)), (2, .ref (x + 334)), (1, .ref x), (0, .ref b)]) rfl ?_
  refine v_aload_n X dL_law_1273 1274 rfl 4 rfl ?_
  refine v_aload_n X dL_law_1274 1275 rfl 6 rfl ?_
  refine v_iload X dL_law_1275 1277 rfl 1 rfl ?_
  refine v_iconst X dL_law_1277 1278 rfl ?_
  refine v_iadd X dL_law_1278 1279 rfl ?_
  refine v_scr X hM hX hbl hbf (by omega) (by omega) hLx ha1 dL_law_1279 1280 rfl ?_
  refine v_muV X hM (h_mo.1) (c_X10_appealCount_0 l E (x + 334) mo co a1 hO hR ga1 q0) kvX10_appealCount kiX10_appealCount kl_L_247 (q0 := 0) rfl rfl (As := [.int (zI a1)]) rfl rfl (rm_law rfl (by omega) (by omega)) dL_law_1280 1283 rfl (k' := kq + 1) (n' := nq + 6) rfl rfl (fsI (fun q q1 q2 => (Or.inr (by omega)))) h_mo (fun rv H2 lo2 hM hF hpo => ?_)
  obtain ⟨rfl, hw_0⟩ := hpo
  have h_mo : PR E (x + 334) (modelW E (x + 334) (updC mo 0 (updZ (mo 0) 0 1))) H2 := hw_0
  replace hzl := Nat.le_trans hzl hF.1
  replace h_cm := h_cm.kept hF 1 rfl (fsd (by omega))
  replace h_co := h_co.kept hF 28 rfl (fsd (by omega))
  replace h_bf := h_bf.kept hF 28 rfl (fsd (by omega))
  replace h_sv := h_sv.kept hF 28 rfl (fsd (by omega))
  replace h_hi := h_hi.kept hF 2 rfl (fsd (by omega))
  replace h_hf := h_hf.kept hF (fsd (by omega))
  replace h_dk := h_dk.kept hF 3 rfl (fsd (by omega))
  replace h_se := h_se.kept hF 5 rfl (fsd (by omega))
  replace h_pg := h_pg.kept hF 1 rfl (fsd (by omega))
  replace h_sb := h_sb.kept hF 1 rfl (fsd (by omega))
  replace h_sa := h_sa.kept hF 1 rfl (fsd (by omega))
  replace h_pr := h_pr.kept hF 10 rfl (fsd (by omega))
  replace h_ln := h_ln.kept hF 1 rfl (fsd (by omega))
  replace h_la := h_la.kept hF 1 rfl (fsd (by omega))
  replace h_out := h_out.kept hF 1 rfl (fsd (by omega))
  replace h_outD := h_outD.kept hF 1 rfl (fsd (by omega))
  show V p l e room_1 s m args below meth cd Q 9 H2 lo2 (kq + 1) (nq + 6) 1283 [(6, .int (zI 1)), (5, .int (zI i)), (4, .ref (x + 340)), (3, .ref (x + 339)), (2, .ref (x + 334)), (1, .ref x), (0, .ref b)] [.int (zI 0)]
  refine v_istore X dL_law_1283 1285 rfl (by decide) (L' := [(7, .int (zI 0)), (6, .int (zI 1)), (5, .int (zI i)), (4, .ref (x + 340)), (3, .ref (x + 339)), (2, .ref (x + 334)), (1, .ref x), (0, .ref b)]) rfl ?_
  refine v_aload_n X dL_law_1285 1286 rfl 5 rfl ?_
  refine v_rdV X hM.C h_mo.1 (c_X10_thrown l E (x + 334) (updC mo 0 (updZ (mo 0) 0 1))) kvX10_thrown kiX10_thrown kl_L_196 rfl rfl (As := []) rfl rfl (rm_law0 rfl (by omega) (by omega)) dL_law_1286 1289 rfl ?_
  show V p l e room_1 s m args below meth cd Q 9 H2 lo2 (kq + 1) (nq + 6) 1289 [(7, .int (zI 0)), (6, .int (zI 1)), (5, .int (zI i)), (4, .ref (x + 340)), (3, .ref (x + 339)), (2, .ref (x + 334)), (1, .ref x), (0, .ref b)] [.int (zI 1)]
  refine v_iload X dL_law_1289 1291 rfl 1 rfl ?_
  refine v_icmp_eq X (by omega) (by omega) dL_law_1291 1294 1296 rfl (by decide) (fun c_3 => ?_) (fun c_3 => ?_)
  · skip
    refine v_iload X dL_law_1296 1298 rfl 1 rfl ?_
    refine v_if_ne X (by omega) dL_law_1298 1301 1313 rfl (by decide) (fun c_4 => ?_) (fun c_4 => ?_)
    · skip
      refine v_goto X dL_law_1313 3555 (by decide) ?_
      refine v_widen (k' := kq + 60) (n' := nq + 4000) (by omega) (by omega) ?_
      exact V_pick [2, 3, 4, 5, 6, 7] rfl (kk _ _ hM ⟨hzl, _, _, _, _, _, _, _, _, _, _, _, _, _, _, _, _, _, _, _, _, _, _, _, _, _, _, _, _, ⟨h_cm, h_co, h_bf, h_sv, h_hi, h_hf, h_dk, h_se, h_pg, h_sb, h_sa, h_pr, h_ln, h_la, h_mo, h_out, h_outD⟩, hP0.mo_0⟩)
    · skip
      exfalso; omega
  · skip
    exfalso; omega
set_option maxHeartbeats 4000000 in
set_option maxRecDepth 20000 in
theorem lo_testimonyCount (hl : l.stackTraces = false) (X : CF p m cd code 9 s args RL) (hX : va_X b Lx xs s s.heap) (hbl : b < s.heap.size) (hLx : Lx ≤ 2560) (hM : MS E [] s H lo) (hk : kq + 60 ≤ 603072) (hn : nq + 4000 ≤ 7211113) (hx : s.heap.size ≤ x) (hzl : x + 341 ≤ H.size) {v : Nat} {N : Nat} {f : Int → Int} {nn : Int} {v2 : Nat} {N2 : Nat} {f2 : Int → Int} {n2 : Int} {co : Nat → Int → Int} {bf : Nat → Int → Int} {cv : Nat → Int → Int} {hc : Nat → Nat → Int → Int} {nx : Int} {sz : Int} {hs : Int} {er : Int} {fa : Int} {ss : Int} {dk : Nat → Int → Int} {se : Nat → Int → Int} {po : Int} {si : Int} {pr : Nat → Int → Int} {ml : Int} {ml2 : Int} {mo : Nat → Int → Int} {lg : Nat → Int64} {dg : Nat → UInt64} (hW : LawW E x v N f nn v2 N2 f2 n2 co bf cv hc nx sz hs er fa ss dk se po si pr ml ml2 mo lg dg H) (hP : LawP x v N f nn v2 N2 f2 n2 co cv hc nx sz hs er fa ss po si pr mo) (i0 : 0 ≤ i) (i1 : i + 5 ≤ (Lx : Int)) {a1 : Int} (ha1 : (xs (i + 1).toNat).toInt = a1) (ga1 : Rg a1) (q0 : 0 ≤ a1 ∧ a1 < co 0 0) (kk : ∀ (H1 : Heap) (lo1 : List Loc), MS E [] s H1 lo1 → LawI E x H1 → V p l e room_1 s m args below meth cd Q 9 H1 lo1 (kq + 60) (nq + 4000) 3555 [(5, .int (zI i)), (4, .ref (x + 340)), (3, .ref (x + 339)), (2, .ref (x + 334)), (1, .ref x), (0, .ref b)] []) : V p l e room_1 s m args below meth cd Q 9 H lo kq nq 1316 [(5, .int (zI i)), (4, .ref (x + 340)), (3, .ref (x + 339)), (2, .ref (x + 334)), (1, .ref x), (0, .ref b)] [] := by
  obtain ⟨h_cm, h_co, h_bf, h_sv, h_hi, h_hf, h_dk, h_se, h_pg, h_sb, h_sa, h_pr, h_ln, h_la, h_mo, h_out, h_outD⟩ := hW
  have hP0 := hP
  obtain ⟨⟨hD, hDv, hDh⟩, ⟨hRM, hch, hcs⟩, ⟨⟨n0, n1⟩, ⟨s0, s1⟩, hhs⟩, ⟨hm8, hnn, hAg, hNN, hnN, hf9⟩, ⟨T, hSB, hLT, hn38⟩, hPB, ⟨her, hfa, hss, ger, gfa, gss, gms⟩, ⟨gpo, gsi⟩, ⟨hv1, hv2, hvv⟩⟩ := hP
  have hO := hD.inv.ok
  have hI := hD.inv.ts
  have hSt := hD.inv.st
  have hS := hD.inv.sn
  have hR := hRM.1.2
  have hG := gp_inv hD
  have hb0 := hO.b0
  have hbw := hO.bw
  have hbf : ¬ Fr [] s.heap.size b := fun z => z.elim (fun q => q.elim) (fun q => by omega)
  refine v_aload_n X dL_law_1316 1317 rfl 4 rfl ?_
  refine v_aload_n X dL_law_1317 1318 rfl 5 rfl ?_
  refine v_iload X dL_law_1318 1320 rfl 0 rfl ?_
  refine v_iconst X dL_law_1320 1321 rfl ?_
  refine v_iadd X dL_law_1321 1322 rfl ?_
  refine v_scr X hM hX hbl hbf (by omega) (by omega) hLx ha1 dL_law_1322 1323 rfl ?_
  refine v_aload_n X dL_law_1323 1324 rfl 2 rfl ?_
  refine v_mwS X hM (w_X9_testimonyCount l hl E x co hs er fa ss a1 (x + 339) lg hO ga1 q0 (by omega) (by omega)) kwL_testimonyCount ksL_testimonyCount kl_L_248 (As := [.ref x, .int (zI a1), .ref (x + 339)]) rfl rfl (rm_lawW rfl (by omega) (by omega)) dL_law_1324 1327 rfl (k' := kq + 1) (n' := nq + 6) rfl rfl (fsI (fun q q1 q2 => (Or.inr (by omega)))) ⟨h_cm, h_co, h_out⟩ (fun rv H1 lo1 hM hF hpo => ?_)
  obtain ⟨rfl, hw_0⟩ := hpo
  have h_out : PR E (x + 339) [(x + 339, .inl (E 102 4, 1, .inr (.inl (fun _ => zL (co 6 a1)))))] H1 := hw_0
  replace hzl := Nat.le_trans hzl hF.1
  replace h_cm := h_cm.kept hF 1 rfl (fsd (by omega))
  replace h_co := h_co.kept hF 28 rfl (fsd (by omega))
  replace h_bf := h_bf.kept hF 28 rfl (fsd (by omega))
  replace h_sv := h_sv.kept hF 28 rfl (fsd (by omega))
  replace h_hi := h_hi.kept hF 2 rfl (fsd (by omega))
  replace h_hf := h_hf.kept hF (fsd (by omega))
  replace h_dk := h_dk.kept hF 3 rfl (fsd (by omega))
  replace h_se := h_se.kept hF 5 rfl (fsd (by omega))
  replace h_pg := h_pg.kept hF 1 rfl (fsd (by omega))
  replace h_sb := h_sb.kept hF 1 rfl (fsd (by omega))
  replace h_sa := h_sa.kept hF 1 rfl (fsd (by omega))
  replace h_pr := h_pr.kept hF 10 rfl (fsd (by omega))
  replace h_ln := h_ln.kept hF 1 rfl (fsd (by omega))
  replace h_la := h_la.kept hF 1 rfl (fsd (by omega))
  replace h_mo := h_mo.kept hF 5 rfl (fsd (by omega))
  replace h_outD := h_outD.kept hF 1 rfl (fsd (by omega))
  show V p l e room_1 s m args below meth cd Q 9 H1 lo1 (kq + 1) (nq + 6) 1327 [(5, .int (zI i)), (4, .ref (x + 340)), (3, .ref (x + 339)), (2, .ref (x + 334)), (1, .ref x), (0, .ref b)] [.int (zI 0)]
  refine v_istore X dL_law_1327 1329 rfl (by decide) (L' := [(6, .int (zI 0)), (5, .int (zI i)), (4, .ref (x + 340)), (3, .ref (x + 339)), (2, .ref (x + 334)), (1, .ref x), (0, .ref b)]) rfl ?_
  refine v_aload_n X dL_law_1329 1330 rfl 4 rfl ?_
  refine v_aload_n X dL_law_1330 1331 rfl 6 rfl ?_
  refine v_iload X dL_law_1331 1333 rfl 1 rfl ?_
  refine v_iconst X dL_law_1333 1334 rfl ?_
  refine v_iadd X dL_law_1334 1335 rfl ?_
  refine v_scr X hM hX hbl hbf (by omega) (by omega) hLx ha1 dL_law_1335 1336 rfl ?_
  refine v_muV X hM (h_mo.1) (c_X10_testimonyCount l E (x + 334) mo co a1 hO hR ga1 q0) kvX10_testimonyCount kiX10_testimonyCount kl_L_250 (q0 := 0) rfl rfl (As := [.int (zI a1)]) rfl rfl (rm_law rfl (by omega) (by omega)) dL_law_1336 1339 rfl (k' := kq + 1) (n' := nq + 6) rfl rfl (fsI (fun q q1 q2 => (Or.inr (by omega)))) h_mo (fun rv H2 lo2 hM hF hpo => ?_)
  obtain ⟨rfl, hw_0⟩ := hpo
  have h_mo : PR E (x + 334) (modelW E (x + 334) (updC mo 0 (updZ (mo 0) 0 0))) H2 := hw_0
  replace hzl := Nat.le_trans hzl hF.1
  replace h_cm := h_cm.kept hF 1 rfl (fsd (by omega))
  replace h_co := h_co.kept hF 28 rfl (fsd (by omega))
  replace h_bf := h_bf.kept hF 28 rfl (fsd (by omega))
  replace h_sv := h_sv.kept hF 28 rfl (fsd (by omega))
  replace h_hi := h_hi.kept hF 2 rfl (fsd (by omega))
  replace h_hf := h_hf.kept hF (fsd (by omega))
  replace h_dk := h_dk.kept hF 3 rfl (fsd (by omega))
  replace h_se := h_se.kept hF 5 rfl (fsd (by omega))
  replace h_pg := h_pg.kept hF 1 rfl (fsd (by omega))
  replace h_sb := h_sb.kept hF 1 rfl (fsd (by omega))
  replace h_sa := h_sa.kept hF 1 rfl (fsd (by omega))
  replace h_pr := h_pr.kept hF 10 rfl (fsd (by omega))
  replace h_ln := h_ln.kept hF 1 rfl (fsd (by omega))
  replace h_la := h_la.kept hF 1 rfl (fsd (by omega))
  replace h_out := h_out.kept hF 1 rfl (fsd (by omega))
  replace h_outD := h_outD.kept hF 1 rfl (fsd (by omega))
  show V p l e room_1 s m args below meth cd Q 9 H2 lo2 (kq + 1) (nq + 6) 1339 [(6, .int (zI 0)), (5, .int (zI i)), (4, .ref (x + 340)), (3, .ref (x + 339)), (2, .ref (x + 334)), (1, .ref x), (0, .ref b)] [.int (zI (co 6 a1))]
  refine v_istore X dL_law_1339 1341 rfl (by decide) (L' := [(7, .int (zI (co 6 a1))), (6, .int (zI 0)), (5, .int (zI i)), (4, .ref (x + 340)), (3, .ref (x + 339)), (2, .ref (x + 334)), (1, .ref x), (0, .ref b)]) rfl ?_
  refine v_aload_n X dL_law_1341 1342 rfl 5 rfl ?_
  refine v_rdV X hM.C h_mo.1 (c_X10_thrown l E (x + 334) (updC mo 0 (updZ (mo 0) 0 0))) kvX10_thrown kiX10_thrown kl_L_196 rfl rfl (As := []) rfl rfl (rm_law0 rfl (by omega) (by omega)) dL_law_1342 1345 rfl ?_
  show V p l e room_1 s m args below meth cd Q 9 H2 lo2 (kq + 1) (nq + 6) 1345 [(7, .int (zI (co 6 a1))), (6, .int (zI 0)), (5, .int (zI i)), (4, .ref (x + 340)), (3, .ref (x + 339)), (2, .ref (x + 334)), (1, .ref x), (0, .ref b)] [.int (zI 0)]
  refine v_iload X dL_law_1345 1347 rfl 1 rfl ?_
  refine v_icmp_eq X (by omega) (by omega) dL_law_1347 1350 1352 rfl (by decide) (fun c_3 => ?_) (fun c_3 => ?_)
  · skip
    refine v_iload X dL_law_1352 1354 rfl 1 rfl ?_
    refine v_if_ne X (by omega) dL_law_1354 1357 1369 rfl (by decide) (fun c_4 => ?_) (fun c_4 => ?_)
    · skip
      exfalso; omega
    · skip
      refine v_aload_n X dL_law_1357 1358 rfl 4 rfl ?_
      refine v_iconst X dL_law_1358 1359 rfl ?_
      refine v_lald X hM.C h_out.1 0 rfl dL_law_1359 1360 rfl ?_
      show V p l e room_1 s m args below meth cd Q 9 H2 lo2 (kq + 1) (nq + 6) 1360 [(7, .int (zI (co 6 a1))), (6, .int (zI 0)), (5, .int (zI i)), (4, .ref (x + 340)), (3, .ref (x + 339)), (2, .ref (x + 334)), (1, .ref x), (0, .ref b)] [.long (zL (co 6 a1))]
      refine v_iload X dL_law_1360 1362 rfl 0 rfl ?_
      refine v_i2l X dL_law_1362 1363 rfl ?_
      refine v_lcmp0 X dL_law_1363 1364 rfl ?_
      refine v_if_eq X (by omega) dL_law_1364 1367 1369 rfl (by decide) (fun c_5 => ?_) (fun c_5 => ?_)
      · skip
        refine v_goto X dL_law_1369 3555 (by decide) ?_
        refine v_widen (k' := kq + 60) (n' := nq + 4000) (by omega) (by omega) ?_
        exact V_pick [2, 3, 4, 5, 6, 7] rfl (kk _ _ hM ⟨hzl, _, _, _, _, _, _, _, _, _, _, _, _, _, _, _, _, _, _, _, _, _, _, _, _, _, _, _, _, ⟨h_cm, h_co, h_bf, h_sv, h_hi, h_hf, h_dk, h_se, h_pg, h_sb, h_sa, h_pr, h_ln, h_la, h_mo, h_out, h_outD⟩, hP0.mo_0⟩)
      · skip
        exfalso; omega
  · skip
    exfalso; omega
set_option maxHeartbeats 4000000 in
set_option maxRecDepth 20000 in
theorem lo_testimonyCount_1 (hl : l.stackTraces = false) (X : CF p m cd code 9 s args RL) (hX : va_X b Lx xs s s.heap) (hbl : b < s.heap.size) (hLx : Lx ≤ 2560) (hM : MS E [] s H lo) (hk : kq + 60 ≤ 603072) (hn : nq + 4000 ≤ 7211113) (hx : s.heap.size ≤ x) (hzl : x + 341 ≤ H.size) {v : Nat} {N : Nat} {f : Int → Int} {nn : Int} {v2 : Nat} {N2 : Nat} {f2 : Int → Int} {n2 : Int} {co : Nat → Int → Int} {bf : Nat → Int → Int} {cv : Nat → Int → Int} {hc : Nat → Nat → Int → Int} {nx : Int} {sz : Int} {hs : Int} {er : Int} {fa : Int} {ss : Int} {dk : Nat → Int → Int} {se : Nat → Int → Int} {po : Int} {si : Int} {pr : Nat → Int → Int} {ml : Int} {ml2 : Int} {mo : Nat → Int → Int} {lg : Nat → Int64} {dg : Nat → UInt64} (hW : LawW E x v N f nn v2 N2 f2 n2 co bf cv hc nx sz hs er fa ss dk se po si pr ml ml2 mo lg dg H) (hP : LawP x v N f nn v2 N2 f2 n2 co cv hc nx sz hs er fa ss po si pr mo) (i0 : 0 ≤ i) (i1 : i + 5 ≤ (Lx : Int)) {a1 : Int} (ha1 : (xs (i + 1).toNat).toInt = a1) (ga1 : Rg a1) (q0 : ¬ (0 ≤ a1 ∧ a1 < co 0 0)) (kk : ∀ (H1 : Heap) (lo1 : List Loc), MS E [] s H1 lo1 → LawI E x H1 → V p l e room_1 s m args below meth cd Q 9 H1 lo1 (kq + 60) (nq + 4000) 3555 [(5, .int (zI i)), (4, .ref (x + 340)), (3, .ref (x + 339)), (2, .ref (x + 334)), (1, .ref x), (0, .ref b)] []) : V p l e room_1 s m args below meth cd Q 9 H lo kq nq 1316 [(5, .int (zI i)), (4, .ref (x + 340)), (3, .ref (x + 339)), (2, .ref (x + 334)), (1, .ref x), (0, .ref b)] [] := by
  obtain ⟨h_cm, h_co, h_bf, h_sv, h_hi, h_hf, h_dk, h_se, h_pg, h_sb, h_sa, h_pr, h_ln, h_la, h_mo, h_out, h_outD⟩ := hW
  have hP0 := hP
  obtain ⟨⟨hD, hDv, hDh⟩, ⟨hRM, hch, hcs⟩, ⟨⟨n0, n1⟩, ⟨s0, s1⟩, hhs⟩, ⟨hm8, hnn, hAg, hNN, hnN, hf9⟩, ⟨T, hSB, hLT, hn38⟩, hPB, ⟨her, hfa, hss, ger, gfa, gss, gms⟩, ⟨gpo, gsi⟩, ⟨hv1, hv2, hvv⟩⟩ := hP
  have hO := hD.inv.ok
  have hI := hD.inv.ts
  have hSt := hD.inv.st
  have hS := hD.inv.sn
  have hR := hRM.1.2
  have hG := gp_inv hD
  have hb0 := hO.b0
  have hbw := hO.bw
  have hbf : ¬ Fr [] s.heap.size b := fun z => z.elim (fun q => q.elim) (fun q => by omega)
  refine v_aload_n X dL_law_1316 1317 rfl 4 rfl ?_
  refine v_aload_n X dL_law_1317 1318 rfl 5 rfl ?_
  refine v_iload X dL_law_1318 1320 rfl 0 rfl ?_
  refine v_iconst X dL_law_1320 1321 rfl ?_
  refine v_iadd X dL_law_1321 1322 rfl ?_
  refine v_scr X hM hX hbl hbf (by omega) (by omega) hLx ha1 dL_law_1322 1323 rfl ?_
  refine v_aload_n X dL_law_1323 1324 rfl 2 rfl ?_
  refine v_mwS X hM (w_X9_testimonyCount_0_t l hl E x co hs er fa ss a1 (x + 339) lg hO ga1 q0) kwL_testimonyCount ksL_testimonyCount kl_L_248 (As := [.ref x, .int (zI a1), .ref (x + 339)]) rfl rfl (rm_lawW rfl (by omega) (by omega)) dL_law_1324 1327 rfl (k' := kq + 1) (n' := nq + 6) rfl rfl (fun q hq => hq.elim) ⟨h_cm, h_co, h_out⟩ (fun rv H1 lo1 hM hF hpo => ?_)
  subst hpo
  replace hzl := Nat.le_trans hzl hF.1
  replace h_cm := h_cm.kept hF 1 rfl (fun q _ _ h => h.elim)
  replace h_co := h_co.kept hF 28 rfl (fun q _ _ h => h.elim)
  replace h_bf := h_bf.kept hF 28 rfl (fun q _ _ h => h.elim)
  replace h_sv := h_sv.kept hF 28 rfl (fun q _ _ h => h.elim)
  replace h_hi := h_hi.kept hF 2 rfl (fun q _ _ h => h.elim)
  replace h_hf := h_hf.kept hF (fun q _ _ h => h.elim)
  replace h_dk := h_dk.kept hF 3 rfl (fun q _ _ h => h.elim)
  replace h_se := h_se.kept hF 5 rfl (fun q _ _ h => h.elim)
  replace h_pg := h_pg.kept hF 1 rfl (fun q _ _ h => h.elim)
  replace h_sb := h_sb.kept hF 1 rfl (fun q _ _ h => h.elim)
  replace h_sa := h_sa.kept hF 1 rfl (fun q _ _ h => h.elim)
  replace h_pr := h_pr.kept hF 10 rfl (fun q _ _ h => h.elim)
  replace h_ln := h_ln.kept hF 1 rfl (fun q _ _ h => h.elim)
  replace h_la := h_la.kept hF 1 rfl (fun q _ _ h => h.elim)
  replace h_mo := h_mo.kept hF 5 rfl (fun q _ _ h => h.elim)
  replace h_out := h_out.kept hF 1 rfl (fun q _ _ h => h.elim)
  replace h_outD := h_outD.kept hF 1 rfl (fun q _ _ h => h.elim)
  show V p l e room_1 s m args below meth cd Q 9 H1 lo1 (kq + 1) (nq + 6) 1327 [(5, .int (zI i)), (4, .ref (x + 340)), (3, .ref (x + 339)), (2, .ref (x + 334)), (1, .ref x), (0, .ref b)] [.int (zI 1)]
  refine v_istore X dL_law_1327 1329 rfl (by decide) (L' := [(6, .int (zI 1)), (5, .int (zI i)), (4, .ref (x + 340)), (3, .ref (x + 339)), (2, .ref (x + 334)), (1, .ref x), (0, .ref b)]) rfl ?_
  refine v_aload_n X dL_law_1329 1330 rfl 4 rfl ?_
  refine v_aload_n X dL_law_1330 1331 rfl 6 rfl ?_
  refine v_iload X dL_law_1331 1333 rfl 1 rfl ?_
  refine v_iconst X dL_law_1333 1334 rfl ?_
  refine v_iadd X dL_law_1334 1335 rfl ?_
  refine v_scr X hM hX hbl hbf (by omega) (by omega) hLx ha1 dL_law_1335 1336 rfl ?_
  refine v_muV X hM (h_mo.1) (c_X10_testimonyCount_0 l E (x + 334) mo co a1 hO hR ga1 q0) kvX10_testimonyCount kiX10_testimonyCount kl_L_250 (q0 := 0) rfl rfl (As := [.int (zI a1)]) rfl rfl (rm_law rfl (by omega) (by omega)) dL_law_1336 1339 rfl (k' := kq + 1) (n' := nq + 6) rfl rfl (fsI (fun q q1 q2 => (Or.inr (by omega)))) h_mo (fun rv H2 lo2 hM hF hpo => ?_)
  obtain ⟨rfl, hw_0⟩ := hpo
  have h_mo : PR E (x + 334) (modelW E (x + 334) (updC mo 0 (updZ (mo 0) 0 1))) H2 := hw_0
  replace hzl := Nat.le_trans hzl hF.1
  replace h_cm := h_cm.kept hF 1 rfl (fsd (by omega))
  replace h_co := h_co.kept hF 28 rfl (fsd (by omega))
  replace h_bf := h_bf.kept hF 28 rfl (fsd (by omega))
  replace h_sv := h_sv.kept hF 28 rfl (fsd (by omega))
  replace h_hi := h_hi.kept hF 2 rfl (fsd (by omega))
  replace h_hf := h_hf.kept hF (fsd (by omega))
  replace h_dk := h_dk.kept hF 3 rfl (fsd (by omega))
  replace h_se := h_se.kept hF 5 rfl (fsd (by omega))
  replace h_pg := h_pg.kept hF 1 rfl (fsd (by omega))
  replace h_sb := h_sb.kept hF 1 rfl (fsd (by omega))
  replace h_sa := h_sa.kept hF 1 rfl (fsd (by omega))
  replace h_pr := h_pr.kept hF 10 rfl (fsd (by omega))
  replace h_ln := h_ln.kept hF 1 rfl (fsd (by omega))
  replace h_la := h_la.kept hF 1 rfl (fsd (by omega))
  replace h_out := h_out.kept hF 1 rfl (fsd (by omega))
  replace h_outD := h_outD.kept hF 1 rfl (fsd (by omega))
  show V p l e room_1 s m args below meth cd Q 9 H2 lo2 (kq + 1) (nq + 6) 1339 [(6, .int (zI 1)), (5, .int (zI i)), (4, .ref (x + 340)), (3, .ref (x + 339)), (2, .ref (x + 334)), (1, .ref x), (0, .ref b)] [.int (zI 0)]
  refine v_istore X dL_law_1339 1341 rfl (by decide) (L' := [(7, .int (zI 0)), (6, .int (zI 1)), (5, .int (zI i)), (4, .ref (x + 340)), (3, .ref (x + 339)), (2, .ref (x + 334)), (1, .ref x), (0, .ref b)]) rfl ?_
  refine v_aload_n X dL_law_1341 1342 rfl 5 rfl ?_
  refine v_rdV X hM.C h_mo.1 (c_X10_thrown l E (x + 334) (updC mo 0 (updZ (mo 0) 0 1))) kvX10_thrown kiX10_thrown kl_L_196 rfl rfl (As := []) rfl rfl (rm_law0 rfl (by omega) (by omega)) dL_law_1342 1345 rfl ?_
  show V p l e room_1 s m args below meth cd Q 9 H2 lo2 (kq + 1) (nq + 6) 1345 [(7, .int (zI 0)), (6, .int (zI 1)), (5, .int (zI i)), (4, .ref (x + 340)), (3, .ref (x + 339)), (2, .ref (x + 334)), (1, .ref x), (0, .ref b)] [.int (zI 1)]
  refine v_iload X dL_law_1345 1347 rfl 1 rfl ?_
  refine v_icmp_eq X (by omega) (by omega) dL_law_1347 1350 1352 rfl (by decide) (fun c_3 => ?_) (fun c_3 => ?_)
  · skip
    refine v_iload X dL_law_1352 1354 rfl 1 rfl ?_
    refine v_if_ne X (by omega) dL_law_1354 1357 1369 rfl (by decide) (fun c_4 => ?_) (fun c_4 => ?_)
    · skip
      refine v_goto X dL_law_1369 3555 (by decide) ?_
      refine v_widen (k' := kq + 60) (n' := nq + 4000) (by omega) (by omega) ?_
      exact V_pick [2, 3, 4, 5, 6, 7] rfl (kk _ _ hM ⟨hzl, _, _, _, _, _, _, _, _, _, _, _, _, _, _, _, _, _, _, _, _, _, _, _, _, _, _, _, _, ⟨h_cm, h_co, h_bf, h_sv, h_hi, h_hf, h_dk, h_se, h_pg, h_sb, h_sa, h_pr, h_ln, h_la, h_mo, h_out, h_outD⟩, hP0.mo_0⟩)
    · skip
      exfalso; omega
  · skip
    exfalso; omega
set_option maxHeartbeats 4000000 in
set_option maxRecDepth 20000 in
theorem lo_witnessAt (hl : l.stackTraces = false) (X : CF p m cd code 9 s args RL) (hX : va_X b Lx xs s s.heap) (hbl : b < s.heap.size) (hLx : Lx ≤ 2560) (hM : MS E [] s H lo) (hk : kq + 60 ≤ 603072) (hn : nq + 4000 ≤ 7211113) (hx : s.heap.size ≤ x) (hzl : x + 341 ≤ H.size) {v : Nat} {N : Nat} {f : Int → Int} {nn : Int} {v2 : Nat} {N2 : Nat} {f2 : Int → Int} {n2 : Int} {co : Nat → Int → Int} {bf : Nat → Int → Int} {cv : Nat → Int → Int} {hc : Nat → Nat → Int → Int} {nx : Int} {sz : Int} {hs : Int} {er : Int} {fa : Int} {ss : Int} {dk : Nat → Int → Int} {se : Nat → Int → Int} {po : Int} {si : Int} {pr : Nat → Int → Int} {ml : Int} {ml2 : Int} {mo : Nat → Int → Int} {lg : Nat → Int64} {dg : Nat → UInt64} (hW : LawW E x v N f nn v2 N2 f2 n2 co bf cv hc nx sz hs er fa ss dk se po si pr ml ml2 mo lg dg H) (hP : LawP x v N f nn v2 N2 f2 n2 co cv hc nx sz hs er fa ss po si pr mo) (i0 : 0 ≤ i) (i1 : i + 5 ≤ (Lx : Int)) {a1 : Int} (ha1 : (xs (i + 1).toNat).toInt = a1) (ga1 : Rg a1) {a2 : Int} (ha2 : (xs (i + 2).toNat).toInt = a2) (ga2 : Rg a2) (q0 : 0 ≤ a1 ∧ a1 < co 0 0) (q1 : 0 ≤ a2 ∧ a2 < co 6 a1) (kk : ∀ (H1 : Heap) (lo1 : List Loc), MS E [] s H1 lo1 → LawI E x H1 → V p l e room_1 s m args below meth cd Q 9 H1 lo1 (kq + 60) (nq + 4000) 3555 [(5, .int (zI i)), (4, .ref (x + 340)), (3, .ref (x + 339)), (2, .ref (x + 334)), (1, .ref x), (0, .ref b)] []) : V p l e room_1 s m args below meth cd Q 9 H lo kq nq 1372 [(5, .int (zI i)), (4, .ref (x + 340)), (3, .ref (x + 339)), (2, .ref (x + 334)), (1, .ref x), (0, .ref b)] [] := by
  obtain ⟨h_cm, h_co, h_bf, h_sv, h_hi, h_hf, h_dk, h_se, h_pg, h_sb, h_sa, h_pr, h_ln, h_la, h_mo, h_out, h_outD⟩ := hW
  have hP0 := hP
  obtain ⟨⟨hD, hDv, hDh⟩, ⟨hRM, hch, hcs⟩, ⟨⟨n0, n1⟩, ⟨s0, s1⟩, hhs⟩, ⟨hm8, hnn, hAg, hNN, hnN, hf9⟩, ⟨T, hSB, hLT, hn38⟩, hPB, ⟨her, hfa, hss, ger, gfa, gss, gms⟩, ⟨gpo, gsi⟩, ⟨hv1, hv2, hvv⟩⟩ := hP
  have hO := hD.inv.ok
  have hI := hD.inv.ts
  have hSt := hD.inv.st
  have hS := hD.inv.sn
  have hR := hRM.1.2
  have hG := gp_inv hD
  have hb0 := hO.b0
  have hbw := hO.bw
  have hbf : ¬ Fr [] s.heap.size b := fun z => z.elim (fun q => q.elim) (fun q => by omega)
  refine v_aload_n X dL_law_1372 1373 rfl 4 rfl ?_
  refine v_aload_n X dL_law_1373 1374 rfl 5 rfl ?_
  refine v_iload X dL_law_1374 1376 rfl 0 rfl ?_
  refine v_iconst X dL_law_1376 1377 rfl ?_
  refine v_iadd X dL_law_1377 1378 rfl ?_
  refine v_scr X hM hX hbl hbf (by omega) (by omega) hLx ha1 dL_law_1378 1379 rfl ?_
  refine v_aload_n X dL_law_1379 1380 rfl 5 rfl ?_
  refine v_iload X dL_law_1380 1382 rfl 0 rfl ?_
  refine v_iconst X dL_law_1382 1383 rfl ?_
  refine v_iadd X dL_law_1383 1384 rfl ?_
  refine v_scr X hM hX hbl hbf (by omega) (by omega) hLx ha2 dL_law_1384 1385 rfl ?_
  refine v_aload_n X dL_law_1385 1386 rfl 2 rfl ?_
  refine v_mwS X hM (w_X9_witnessAt l hl E x co hs er fa ss a1 a2 (x + 339) lg hO ga1 ga2 q0 q1 (by omega) (by omega)) kwL_witnessAt ksL_witnessAt kl_L_251 (As := [.ref x, .int (zI a1), .int (zI a2), .ref (x + 339)]) rfl rfl (rm_lawW rfl (by omega) (by omega)) dL_law_1386 1389 rfl (k' := kq + 1) (n' := nq + 6) rfl rfl (fsI (fun q q1 q2 => (Or.inr (by omega)))) ⟨h_cm, h_co, h_out⟩ (fun rv H1 lo1 hM hF hpo => ?_)
  obtain ⟨rfl, hw_0⟩ := hpo
  have h_out : PR E (x + 339) [(x + 339, .inl (E 102 4, 1, .inr (.inl (fun _ => zL (co 7 (a1 * 6 + a2))))))] H1 := hw_0
  replace hzl := Nat.le_trans hzl hF.1
  replace h_cm := h_cm.kept hF 1 rfl (fsd (by omega))
  replace h_co := h_co.kept hF 28 rfl (fsd (by omega))
  replace h_bf := h_bf.kept hF 28 rfl (fsd (by omega))
  replace h_sv := h_sv.kept hF 28 rfl (fsd (by omega))
  replace h_hi := h_hi.kept hF 2 rfl (fsd (by omega))
  replace h_hf := h_hf.kept hF (fsd (by omega))
  replace h_dk := h_dk.kept hF 3 rfl (fsd (by omega))
  replace h_se := h_se.kept hF 5 rfl (fsd (by omega))
  replace h_pg := h_pg.kept hF 1 rfl (fsd (by omega))
  replace h_sb := h_sb.kept hF 1 rfl (fsd (by omega))
  replace h_sa := h_sa.kept hF 1 rfl (fsd (by omega))
  replace h_pr := h_pr.kept hF 10 rfl (fsd (by omega))
  replace h_ln := h_ln.kept hF 1 rfl (fsd (by omega))
  replace h_la := h_la.kept hF 1 rfl (fsd (by omega))
  replace h_mo := h_mo.kept hF 5 rfl (fsd (by omega))
  replace h_outD := h_outD.kept hF 1 rfl (fsd (by omega))
  show V p l e room_1 s m args below meth cd Q 9 H1 lo1 (kq + 1) (nq + 6) 1389 [(5, .int (zI i)), (4, .ref (x + 340)), (3, .ref (x + 339)), (2, .ref (x + 334)), (1, .ref x), (0, .ref b)] [.int (zI 0)]
  refine v_istore X dL_law_1389 1391 rfl (by decide) (L' := [(6, .int (zI 0)), (5, .int (zI i)), (4, .ref (x + 340)), (3, .ref (x + 339)), (2, .ref (x + 334)), (1, .ref x), (0, .ref b)]) rfl ?_
  refine v_aload_n X dL_law_1391 1392 rfl 4 rfl ?_
  refine v_aload_n X dL_law_1392 1393 rfl 6 rfl ?_
  refine v_iload X dL_law_1393 1395 rfl 1 rfl ?_
  refine v_iconst X dL_law_1395 1396 rfl ?_
  refine v_iadd X dL_law_1396 1397 rfl ?_
  refine v_scr X hM hX hbl hbf (by omega) (by omega) hLx ha1 dL_law_1397 1398 rfl ?_
  refine v_aload_n X dL_law_1398 1399 rfl 6 rfl ?_
  refine v_iload X dL_law_1399 1401 rfl 1 rfl ?_
  refine v_iconst X dL_law_1401 1402 rfl ?_
  refine v_iadd X dL_law_1402 1403 rfl ?_
  refine v_scr X hM hX hbl hbf (by omega) (by omega) hLx ha2 dL_law_1403 1404 rfl ?_
  refine v_muV X hM (h_mo.1) (c_X10_witnessAt l E (x + 334) mo co a1 a2 hO hR ga1 ga2 q0 q1) kvX10_witnessAt kiX10_witnessAt kl_L_253 (q0 := 0) rfl rfl (As := [.int (zI a1), .int (zI a2)]) rfl rfl (rm_law rfl (by omega) (by omega)) dL_law_1404 1407 rfl (k' := kq + 1) (n' := nq + 6) rfl rfl (fsI (fun q q1 q2 => (Or.inr (by omega)))) h_mo (fun rv H2 lo2 hM hF hpo => ?_)
  obtain ⟨rfl, hw_0⟩ := hpo
  have h_mo : PR E (x + 334) (modelW E (x + 334) (updC mo 0 (updZ (mo 0) 0 0))) H2 := hw_0
  replace hzl := Nat.le_trans hzl hF.1
  replace h_cm := h_cm.kept hF 1 rfl (fsd (by omega))
  replace h_co := h_co.kept hF 28 rfl (fsd (by omega))
  replace h_bf := h_bf.kept hF 28 rfl (fsd (by omega))
  replace h_sv := h_sv.kept hF 28 rfl (fsd (by omega))
  replace h_hi := h_hi.kept hF 2 rfl (fsd (by omega))
  replace h_hf := h_hf.kept hF (fsd (by omega))
  replace h_dk := h_dk.kept hF 3 rfl (fsd (by omega))
  replace h_se := h_se.kept hF 5 rfl (fsd (by omega))
  replace h_pg := h_pg.kept hF 1 rfl (fsd (by omega))
  replace h_sb := h_sb.kept hF 1 rfl (fsd (by omega))
  replace h_sa := h_sa.kept hF 1 rfl (fsd (by omega))
  replace h_pr := h_pr.kept hF 10 rfl (fsd (by omega))
  replace h_ln := h_ln.kept hF 1 rfl (fsd (by omega))
  replace h_la := h_la.kept hF 1 rfl (fsd (by omega))
  replace h_out := h_out.kept hF 1 rfl (fsd (by omega))
  replace h_outD := h_outD.kept hF 1 rfl (fsd (by omega))
  show V p l e room_1 s m args below meth cd Q 9 H2 lo2 (kq + 1) (nq + 6) 1407 [(6, .int (zI 0)), (5, .int (zI i)), (4, .ref (x + 340)), (3, .ref (x + 339)), (2, .ref (x + 334)), (1, .ref x), (0, .ref b)] [.int (zI (co 7 (a1 * 6 + a2)))]
  refine v_istore X dL_law_1407 1409 rfl (by decide) (L' := [(7, .int (zI (co 7 (a1 * 6 + a2)))), (6, .int (zI 0)), (5, .int (zI i)), (4, .ref (x + 340)), (3, .ref (x + 339)), (2, .ref (x + 334)), (1, .ref x), (0, .ref b)]) rfl ?_
  refine v_aload_n X dL_law_1409 1410 rfl 5 rfl ?_
  refine v_rdV X hM.C h_mo.1 (c_X10_thrown l E (x + 334) (updC mo 0 (updZ (mo 0) 0 0))) kvX10_thrown kiX10_thrown kl_L_196 rfl rfl (As := []) rfl rfl (rm_law0 rfl (by omega) (by omega)) dL_law_1410 1413 rfl ?_
  show V p l e room_1 s m args below meth cd Q 9 H2 lo2 (kq + 1) (nq + 6) 1413 [(7, .int (zI (co 7 (a1 * 6 + a2)))), (6, .int (zI 0)), (5, .int (zI i)), (4, .ref (x + 340)), (3, .ref (x + 339)), (2, .ref (x + 334)), (1, .ref x), (0, .ref b)] [.int (zI 0)]
  refine v_iload X dL_law_1413 1415 rfl 1 rfl ?_
  refine v_icmp_eq X (by omega) (by omega) dL_law_1415 1418 1420 rfl (by decide) (fun c_3 => ?_) (fun c_3 => ?_)
  · skip
    refine v_iload X dL_law_1420 1422 rfl 1 rfl ?_
    refine v_if_ne X (by omega) dL_law_1422 1425 1437 rfl (by decide) (fun c_4 => ?_) (fun c_4 => ?_)
    · skip
      exfalso; omega
    · skip
      refine v_aload_n X dL_law_1425 1426 rfl 4 rfl ?_
      refine v_iconst X dL_law_1426 1427 rfl ?_
      refine v_lald X hM.C h_out.1 0 rfl dL_law_1427 1428 rfl ?_
      show V p l e room_1 s m args below meth cd Q 9 H2 lo2 (kq + 1) (nq + 6) 1428 [(7, .int (zI (co 7 (a1 * 6 + a2)))), (6, .int (zI 0)), (5, .int (zI i)), (4, .ref (x + 340)), (3, .ref (x + 339)), (2, .ref (x + 334)), (1, .ref x), (0, .ref b)] [.long (zL (co 7 (a1 * 6 + a2)))]
      refine v_iload X dL_law_1428 1430 rfl 0 rfl ?_
      refine v_i2l X dL_law_1430 1431 rfl ?_
      refine v_lcmp0 X dL_law_1431 1432 rfl ?_
      refine v_if_eq X (by omega) dL_law_1432 1435 1437 rfl (by decide) (fun c_5 => ?_) (fun c_5 => ?_)
      · skip
        refine v_goto X dL_law_1437 3555 (by decide) ?_
        refine v_widen (k' := kq + 60) (n' := nq + 4000) (by omega) (by omega) ?_
        exact V_pick [2, 3, 4, 5, 6, 7] rfl (kk _ _ hM ⟨hzl, _, _, _, _, _, _, _, _, _, _, _, _, _, _, _, _, _, _, _, _, _, _, _, _, _, _, _, _, ⟨h_cm, h_co, h_bf, h_sv, h_hi, h_hf, h_dk, h_se, h_pg, h_sb, h_sa, h_pr, h_ln, h_la, h_mo, h_out, h_outD⟩, hP0.mo_0⟩)
      · skip
        exfalso; omega
  · skip
    exfalso; omega
set_option maxHeartbeats 4000000 in
set_option maxRecDepth 20000 in
theorem lo_witnessAt_1 (hl : l.stackTraces = false) (X : CF p m cd code 9 s args RL) (hX : va_X b Lx xs s s.heap) (hbl : b < s.heap.size) (hLx : Lx ≤ 2560) (hM : MS E [] s H lo) (hk : kq + 60 ≤ 603072) (hn : nq + 4000 ≤ 7211113) (hx : s.heap.size ≤ x) (hzl : x + 341 ≤ H.size) {v : Nat} {N : Nat} {f : Int → Int} {nn : Int} {v2 : Nat} {N2 : Nat} {f2 : Int → Int} {n2 : Int} {co : Nat → Int → Int} {bf : Nat → Int → Int} {cv : Nat → Int → Int} {hc : Nat → Nat → Int → Int} {nx : Int} {sz : Int} {hs : Int} {er : Int} {fa : Int} {ss : Int} {dk : Nat → Int → Int} {se : Nat → Int → Int} {po : Int} {si : Int} {pr : Nat → Int → Int} {ml : Int} {ml2 : Int} {mo : Nat → Int → Int} {lg : Nat → Int64} {dg : Nat → UInt64} (hW : LawW E x v N f nn v2 N2 f2 n2 co bf cv hc nx sz hs er fa ss dk se po si pr ml ml2 mo lg dg H) (hP : LawP x v N f nn v2 N2 f2 n2 co cv hc nx sz hs er fa ss po si pr mo) (i0 : 0 ≤ i) (i1 : i + 5 ≤ (Lx : Int)) {a1 : Int} (ha1 : (xs (i + 1).toNat).toInt = a1) (ga1 : Rg a1) {a2 : Int} (ha2 : (xs (i + 2).toNat).toInt = a2) (ga2 : Rg a2) (q0 : ¬ (0 ≤ a1 ∧ a1 < co 0 0)) (kk : ∀ (H1 : Heap) (lo1 : List Loc), MS E [] s H1 lo1 → LawI E x H1 → V p l e room_1 s m args below meth cd Q 9 H1 lo1 (kq + 60) (nq + 4000) 3555 [(5, .int (zI i)), (4, .ref (x + 340)), (3, .ref (x + 339)), (2, .ref (x + 334)), (1, .ref x), (0, .ref b)] []) : V p l e room_1 s m args below meth cd Q 9 H lo kq nq 1372 [(5, .int (zI i)), (4, .ref (x + 340)), (3, .ref (x + 339)), (2, .ref (x + 334)), (1, .ref x), (0, .ref b)] [] := by
  obtain ⟨h_cm, h_co, h_bf, h_sv, h_hi, h_hf, h_dk, h_se, h_pg, h_sb, h_sa, h_pr, h_ln, h_la, h_mo, h_out, h_outD⟩ := hW
  have hP0 := hP
  obtain ⟨⟨hD, hDv, hDh⟩, ⟨hRM, hch, hcs⟩, ⟨⟨n0, n1⟩, ⟨s0, s1⟩, hhs⟩, ⟨hm8, hnn, hAg, hNN, hnN, hf9⟩, ⟨T, hSB, hLT, hn38⟩, hPB, ⟨her, hfa, hss, ger, gfa, gss, gms⟩, ⟨gpo, gsi⟩, ⟨hv1, hv2, hvv⟩⟩ := hP
  have hO := hD.inv.ok
  have hI := hD.inv.ts
  have hSt := hD.inv.st
  have hS := hD.inv.sn
  have hR := hRM.1.2
  have hG := gp_inv hD
  have hb0 := hO.b0
  have hbw := hO.bw
  have hbf : ¬ Fr [] s.heap.size b := fun z => z.elim (fun q => q.elim) (fun q => by omega)
  refine v_aload_n X dL_law_1372 1373 rfl 4 rfl ?_
  refine v_aload_n X dL_law_1373 1374 rfl 5 rfl ?_
  refine v_iload X dL_law_1374 1376 rfl 0 rfl ?_
  refine v_iconst X dL_law_1376 1377 rfl ?_
  refine v_iadd X dL_law_1377 1378 rfl ?_
  refine v_scr X hM hX hbl hbf (by omega) (by omega) hLx ha1 dL_law_1378 1379 rfl ?_
  refine v_aload_n X dL_law_1379 1380 rfl 5 rfl ?_
  refine v_iload X dL_law_1380 1382 rfl 0 rfl ?_
  refine v_iconst X dL_law_1382 1383 rfl ?_
  refine v_iadd X dL_law_1383 1384 rfl ?_
  refine v_scr X hM hX hbl hbf (by omega) (by omega) hLx ha2 dL_law_1384 1385 rfl ?_
  refine v_aload_n X dL_law_1385 1386 rfl 2 rfl ?_
  refine v_mwS X hM (w_X9_witnessAt_0_t l hl E x co hs er fa ss a1 a2 (x + 339) lg hO ga1 ga2 q0) kwL_witnessAt ksL_witnessAt kl_L_251 (As := [.ref x, .int (zI a1), .int (zI a2), .ref (x + 339)]) rfl rfl (rm_lawW rfl (by omega) (by omega)) dL_law_1386 1389 rfl (k' := kq + 1) (n' := nq + 6) rfl rfl (fun q hq => hq.elim) ⟨h_cm, h_co, h_out⟩ (fun rv H1 lo1 hM hF hpo => ?_)
  subst hpo
  replace hzl := Nat.le_trans hzl hF.1
  replace h_cm := h_cm.kept hF 1 rfl (fun q _ _ h => h.elim)
  replace h_co := h_co.kept hF 28 rfl (fun q _ _ h => h.elim)
  replace h_bf := h_bf.kept hF 28 rfl (fun q _ _ h => h.elim)
  replace h_sv := h_sv.kept hF 28 rfl (fun q _ _ h => h.elim)
  replace h_hi := h_hi.kept hF 2 rfl (fun q _ _ h => h.elim)
  replace h_hf := h_hf.kept hF (fun q _ _ h => h.elim)
  replace h_dk := h_dk.kept hF 3 rfl (fun q _ _ h => h.elim)
  replace h_se := h_se.kept hF 5 rfl (fun q _ _ h => h.elim)
  replace h_pg := h_pg.kept hF 1 rfl (fun q _ _ h => h.elim)
  replace h_sb := h_sb.kept hF 1 rfl (fun q _ _ h => h.elim)
  replace h_sa := h_sa.kept hF 1 rfl (fun q _ _ h => h.elim)
  replace h_pr := h_pr.kept hF 10 rfl (fun q _ _ h => h.elim)
  replace h_ln := h_ln.kept hF 1 rfl (fun q _ _ h => h.elim)
  replace h_la := h_la.kept hF 1 rfl (fun q _ _ h => h.elim)
  replace h_mo := h_mo.kept hF 5 rfl (fun q _ _ h => h.elim)
  replace h_out := h_out.kept hF 1 rfl (fun q _ _ h => h.elim)
  replace h_outD := h_outD.kept hF 1 rfl (fun q _ _ h => h.elim)
  show V p l e room_1 s m args below meth cd Q 9 H1 lo1 (kq + 1) (nq + 6) 1389 [(5, .int (zI i)), (4, .ref (x + 340)), (3, .ref (x + 339)), (2, .ref (x + 334)), (1, .ref x), (0, .ref b)] [.int (zI 1)]
  refine v_istore X dL_law_1389 1391 rfl (by decide) (L' := [(6, .int (zI 1)), (5, .int (zI i)), (4, .ref (x + 340)), (3, .ref (x + 339)), (2, .ref (x + 334)), (1, .ref x), (0, .ref b)]) rfl ?_
  refine v_aload_n X dL_law_1391 1392 rfl 4 rfl ?_
  refine v_aload_n X dL_law_1392 1393 rfl 6 rfl ?_
  refine v_iload X dL_law_1393 1395 rfl 1 rfl ?_
  refine v_iconst X dL_law_1395 1396 rfl ?_
  refine v_iadd X dL_law_1396 1397 rfl ?_
  refine v_scr X hM hX hbl hbf (by omega) (by omega) hLx ha1 dL_law_1397 1398 rfl ?_
  refine v_aload_n X dL_law_1398 1399 rfl 6 rfl ?_
  refine v_iload X dL_law_1399 1401 rfl 1 rfl ?_
  refine v_iconst X dL_law_1401 1402 rfl ?_
  refine v_iadd X dL_law_1402 1403 rfl ?_
  refine v_scr X hM hX hbl hbf (by omega) (by omega) hLx ha2 dL_law_1403 1404 rfl ?_
  refine v_muV X hM (h_mo.1) (c_X10_witnessAt_0 l E (x + 334) mo co a1 a2 hO hR ga1 ga2 q0) kvX10_witnessAt kiX10_witnessAt kl_L_253 (q0 := 0) rfl rfl (As := [.int (zI a1), .int (zI a2)]) rfl rfl (rm_law rfl (by omega) (by omega)) dL_law_1404 1407 rfl (k' := kq + 1) (n' := nq + 6) rfl rfl (fsI (fun q q1 q2 => (Or.inr (by omega)))) h_mo (fun rv H2 lo2 hM hF hpo => ?_)
  obtain ⟨rfl, hw_0⟩ := hpo
  have h_mo : PR E (x + 334) (modelW E (x + 334) (updC mo 0 (updZ (mo 0) 0 1))) H2 := hw_0
  replace hzl := Nat.le_trans hzl hF.1
  replace h_cm := h_cm.kept hF 1 rfl (fsd (by omega))
  replace h_co := h_co.kept hF 28 rfl (fsd (by omega))
  replace h_bf := h_bf.kept hF 28 rfl (fsd (by omega))
  replace h_sv := h_sv.kept hF 28 rfl (fsd (by omega))
  replace h_hi := h_hi.kept hF 2 rfl (fsd (by omega))
  replace h_hf := h_hf.kept hF (fsd (by omega))
  replace h_dk := h_dk.kept hF 3 rfl (fsd (by omega))
  replace h_se := h_se.kept hF 5 rfl (fsd (by omega))
  replace h_pg := h_pg.kept hF 1 rfl (fsd (by omega))
  replace h_sb := h_sb.kept hF 1 rfl (fsd (by omega))
  replace h_sa := h_sa.kept hF 1 rfl (fsd (by omega))
  replace h_pr := h_pr.kept hF 10 rfl (fsd (by omega))
  replace h_ln := h_ln.kept hF 1 rfl (fsd (by omega))
  replace h_la := h_la.kept hF 1 rfl (fsd (by omega))
  replace h_out := h_out.kept hF 1 rfl (fsd (by omega))
  replace h_outD := h_outD.kept hF 1 rfl (fsd (by omega))
  show V p l e room_1 s m args below meth cd Q 9 H2 lo2 (kq + 1) (nq + 6) 1407 [(6, .int (zI 1)), (5, .int (zI i)), (4, .ref (x + 340)), (3, .ref (x + 339)), (2, .ref (x + 334)), (1, .ref x), (0, .ref b)] [.int (zI 0)]
  refine v_istore X dL_law_1407 1409 rfl (by decide) (L' := [(7, .int (zI 0)), (6, .int (zI 1)), (5, .int (zI i)), (4, .ref (x + 340)), (3, .ref (x + 339)), (2, .ref (x + 334)), (1, .ref x), (0, .ref b)]) rfl ?_
  refine v_aload_n X dL_law_1409 1410 rfl 5 rfl ?_
  refine v_rdV X hM.C h_mo.1 (c_X10_thrown l E (x + 334) (updC mo 0 (updZ (mo 0) 0 1))) kvX10_thrown kiX10_thrown kl_L_196 rfl rfl (As := []) rfl rfl (rm_law0 rfl (by omega) (by omega)) dL_law_1410 1413 rfl ?_
  show V p l e room_1 s m args below meth cd Q 9 H2 lo2 (kq + 1) (nq + 6) 1413 [(7, .int (zI 0)), (6, .int (zI 1)), (5, .int (zI i)), (4, .ref (x + 340)), (3, .ref (x + 339)), (2, .ref (x + 334)), (1, .ref x), (0, .ref b)] [.int (zI 1)]
  refine v_iload X dL_law_1413 1415 rfl 1 rfl ?_
  refine v_icmp_eq X (by omega) (by omega) dL_law_1415 1418 1420 rfl (by decide) (fun c_3 => ?_) (fun c_3 => ?_)
  · skip
    refine v_iload X dL_law_1420 1422 rfl 1 rfl ?_
    refine v_if_ne X (by omega) dL_law_1422 1425 1437 rfl (by decide) (fun c_4 => ?_) (fun c_4 => ?_)
    · skip
      refine v_goto X dL_law_1437 3555 (by decide) ?_
      refine v_widen (k' := kq + 60) (n' := nq + 4000) (by omega) (by omega) ?_
      exact V_pick [2, 3, 4, 5, 6, 7] rfl (kk _ _ hM ⟨hzl, _, _, _, _, _, _, _, _, _, _, _, _, _, _, _, _, _, _, _, _, _, _, _, _, _, _, _, _, ⟨h_cm, h_co, h_bf, h_sv, h_hi, h_hf, h_dk, h_se, h_pg, h_sb, h_sa, h_pr, h_ln, h_la, h_mo, h_out, h_outD⟩, hP0.mo_0⟩)
    · skip
      exfalso; omega
  · skip
    exfalso; omega
set_option maxHeartbeats 4000000 in
set_option maxRecDepth 20000 in
theorem lo_witnessAt_2 (hl : l.stackTraces = false) (X : CF p m cd code 9 s args RL) (hX : va_X b Lx xs s s.heap) (hbl : b < s.heap.size) (hLx : Lx ≤ 2560) (hM : MS E [] s H lo) (hk : kq + 60 ≤ 603072) (hn : nq + 4000 ≤ 7211113) (hx : s.heap.size ≤ x) (hzl : x + 341 ≤ H.size) {v : Nat} {N : Nat} {f : Int → Int} {nn : Int} {v2 : Nat} {N2 : Nat} {f2 : Int → Int} {n2 : Int} {co : Nat → Int → Int} {bf : Nat → Int → Int} {cv : Nat → Int → Int} {hc : Nat → Nat → Int → Int} {nx : Int} {sz : Int} {hs : Int} {er : Int} {fa : Int} {ss : Int} {dk : Nat → Int → Int} {se : Nat → Int → Int} {po : Int} {si : Int} {pr : Nat → Int → Int} {ml : Int} {ml2 : Int} {mo : Nat → Int → Int} {lg : Nat → Int64} {dg : Nat → UInt64} (hW : LawW E x v N f nn v2 N2 f2 n2 co bf cv hc nx sz hs er fa ss dk se po si pr ml ml2 mo lg dg H) (hP : LawP x v N f nn v2 N2 f2 n2 co cv hc nx sz hs er fa ss po si pr mo) (i0 : 0 ≤ i) (i1 : i + 5 ≤ (Lx : Int)) {a1 : Int} (ha1 : (xs (i + 1).toNat).toInt = a1) (ga1 : Rg a1) {a2 : Int} (ha2 : (xs (i + 2).toNat).toInt = a2) (ga2 : Rg a2) (q0 : 0 ≤ a1 ∧ a1 < co 0 0) (q1 : ¬ (0 ≤ a2 ∧ a2 < co 6 a1)) (kk : ∀ (H1 : Heap) (lo1 : List Loc), MS E [] s H1 lo1 → LawI E x H1 → V p l e room_1 s m args below meth cd Q 9 H1 lo1 (kq + 60) (nq + 4000) 3555 [(5, .int (zI i)), (4, .ref (x + 340)), (3, .ref (x + 339)), (2, .ref (x + 334)), (1, .ref x), (0, .ref b)] []) : V p l e room_1 s m args below meth cd Q 9 H lo kq nq 1372 [(5, .int (zI i)), (4, .ref (x + 340)), (3, .ref (x + 339)), (2, .ref (x + 334)), (1, .ref x), (0, .ref b)] [] := by
  obtain ⟨h_cm, h_co, h_bf, h_sv, h_hi, h_hf, h_dk, h_se, h_pg, h_sb, h_sa, h_pr, h_ln, h_la, h_mo, h_out, h_outD⟩ := hW
  have hP0 := hP
  obtain ⟨⟨hD, hDv, hDh⟩, ⟨hRM, hch, hcs⟩, ⟨⟨n0, n1⟩, ⟨s0, s1⟩, hhs⟩, ⟨hm8, hnn, hAg, hNN, hnN, hf9⟩, ⟨T, hSB, hLT, hn38⟩, hPB, ⟨her, hfa, hss, ger, gfa, gss, gms⟩, ⟨gpo, gsi⟩, ⟨hv1, hv2, hvv⟩⟩ := hP
  have hO := hD.inv.ok
  have hI := hD.inv.ts
  have hSt := hD.inv.st
  have hS := hD.inv.sn
  have hR := hRM.1.2
  have hG := gp_inv hD
  have hb0 := hO.b0
  have hbw := hO.bw
  have hbf : ¬ Fr [] s.heap.size b := fun z => z.elim (fun q => q.elim) (fun q => by omega)
  refine v_aload_n X dL_law_1372 1373 rfl 4 rfl ?_
  refine v_aload_n X dL_law_1373 1374 rfl 5 rfl ?_
  refine v_iload X dL_law_1374 1376 rfl 0 rfl ?_
  refine v_iconst X dL_law_1376 1377 rfl ?_
  refine v_iadd X dL_law_1377 1378 rfl ?_
  refine v_scr X hM hX hbl hbf (by omega) (by omega) hLx ha1 dL_law_1378 1379 rfl ?_
  refine v_aload_n X dL_law_1379 1380 rfl 5 rfl ?_
  refine v_iload X dL_law_1380 1382 rfl 0 rfl ?_
  refine v_iconst X dL_law_1382 1383 rfl ?_
  refine v_iadd X dL_law_1383 1384 rfl ?_
  refine v_scr X hM hX hbl hbf (by omega) (by omega) hLx ha2 dL_law_1384 1385 rfl ?_
  refine v_aload_n X dL_law_1385 1386 rfl 2 rfl ?_
  refine v_mwS X hM (w_X9_witnessAt_1_t l hl E x co hs er fa ss a1 a2 (x + 339) lg hO ga1 ga2 q0 q1) kwL_witnessAt ksL_witnessAt kl_L_251 (As := [.ref x, .int (zI a1), .int (zI a2), .ref (x + 339)]) rfl rfl (rm_lawW rfl (by omega) (by omega)) dL_law_1386 1389 rfl (k' := kq + 1) (n' := nq + 6) rfl rfl (fun q hq => hq.elim) ⟨h_cm, h_co, h_out⟩ (fun rv H1 lo1 hM hF hpo => ?_)
  subst hpo
  replace hzl := Nat.le_trans hzl hF.1
  replace h_cm := h_cm.kept hF 1 rfl (fun q _ _ h => h.elim)
  replace h_co := h_co.kept hF 28 rfl (fun q _ _ h => h.elim)
  replace h_bf := h_bf.kept hF 28 rfl (fun q _ _ h => h.elim)
  replace h_sv := h_sv.kept hF 28 rfl (fun q _ _ h => h.elim)
  replace h_hi := h_hi.kept hF 2 rfl (fun q _ _ h => h.elim)
  replace h_hf := h_hf.kept hF (fun q _ _ h => h.elim)
  replace h_dk := h_dk.kept hF 3 rfl (fun q _ _ h => h.elim)
  replace h_se := h_se.kept hF 5 rfl (fun q _ _ h => h.elim)
  replace h_pg := h_pg.kept hF 1 rfl (fun q _ _ h => h.elim)
  replace h_sb := h_sb.kept hF 1 rfl (fun q _ _ h => h.elim)
  replace h_sa := h_sa.kept hF 1 rfl (fun q _ _ h => h.elim)
  replace h_pr := h_pr.kept hF 10 rfl (fun q _ _ h => h.elim)
  replace h_ln := h_ln.kept hF 1 rfl (fun q _ _ h => h.elim)
  replace h_la := h_la.kept hF 1 rfl (fun q _ _ h => h.elim)
  replace h_mo := h_mo.kept hF 5 rfl (fun q _ _ h => h.elim)
  replace h_out := h_out.kept hF 1 rfl (fun q _ _ h => h.elim)
  replace h_outD := h_outD.kept hF 1 rfl (fun q _ _ h => h.elim)
  show V p l e room_1 s m args below meth cd Q 9 H1 lo1 (kq + 1) (nq + 6) 1389 [(5, .int (zI i)), (4, .ref (x + 340)), (3, .ref (x + 339)), (2, .ref (x + 334)), (1, .ref x), (0, .ref b)] [.int (zI 2)]
  refine v_istore X dL_law_1389 1391 rfl (by decide) (L' := [(6, .int (zI 2)), (5, .int (zI i)), (4, .ref (x + 340)), (3, .ref (x + 339)), (2, .ref (x + 334)), (1, .ref x), (0, .ref b)]) rfl ?_
  refine v_aload_n X dL_law_1391 1392 rfl 4 rfl ?_
  refine v_aload_n X dL_law_1392 1393 rfl 6 rfl ?_
  refine v_iload X dL_law_1393 1395 rfl 1 rfl ?_
  refine v_iconst X dL_law_1395 1396 rfl ?_
  refine v_iadd X dL_law_1396 1397 rfl ?_
  refine v_scr X hM hX hbl hbf (by omega) (by omega) hLx ha1 dL_law_1397 1398 rfl ?_
  refine v_aload_n X dL_law_1398 1399 rfl 6 rfl ?_
  refine v_iload X dL_law_1399 1401 rfl 1 rfl ?_
  refine v_iconst X dL_law_1401 1402 rfl ?_
  refine v_iadd X dL_law_1402 1403 rfl ?_
  refine v_scr X hM hX hbl hbf (by omega) (by omega) hLx ha2 dL_law_1403 1404 rfl ?_
  refine v_muV X hM (h_mo.1) (c_X10_witnessAt_1 l E (x + 334) mo co a1 a2 hO hR ga1 ga2 q0 q1) kvX10_witnessAt kiX10_witnessAt kl_L_253 (q0 := 0) rfl rfl (As := [.int (zI a1), .int (zI a2)]) rfl rfl (rm_law rfl (by omega) (by omega)) dL_law_1404 1407 rfl (k' := kq + 1) (n' := nq + 6) rfl rfl (fsI (fun q q1 q2 => (Or.inr (by omega)))) h_mo (fun rv H2 lo2 hM hF hpo => ?_)
  obtain ⟨rfl, hw_0⟩ := hpo
  have h_mo : PR E (x + 334) (modelW E (x + 334) (updC mo 0 (updZ (mo 0) 0 2))) H2 := hw_0
  replace hzl := Nat.le_trans hzl hF.1
  replace h_cm := h_cm.kept hF 1 rfl (fsd (by omega))
  replace h_co := h_co.kept hF 28 rfl (fsd (by omega))
  replace h_bf := h_bf.kept hF 28 rfl (fsd (by omega))
  replace h_sv := h_sv.kept hF 28 rfl (fsd (by omega))
  replace h_hi := h_hi.kept hF 2 rfl (fsd (by omega))
  replace h_hf := h_hf.kept hF (fsd (by omega))
  replace h_dk := h_dk.kept hF 3 rfl (fsd (by omega))
  replace h_se := h_se.kept hF 5 rfl (fsd (by omega))
  replace h_pg := h_pg.kept hF 1 rfl (fsd (by omega))
  replace h_sb := h_sb.kept hF 1 rfl (fsd (by omega))
  replace h_sa := h_sa.kept hF 1 rfl (fsd (by omega))
  replace h_pr := h_pr.kept hF 10 rfl (fsd (by omega))
  replace h_ln := h_ln.kept hF 1 rfl (fsd (by omega))
  replace h_la := h_la.kept hF 1 rfl (fsd (by omega))
  replace h_out := h_out.kept hF 1 rfl (fsd (by omega))
  replace h_outD := h_outD.kept hF 1 rfl (fsd (by omega))
  show V p l e room_1 s m args below meth cd Q 9 H2 lo2 (kq + 1) (nq + 6) 1407 [(6, .int (zI 2)), (5, .int (zI i)), (4, .ref (x + 340)), (3, .ref (x + 339)), (2, .ref (x + 334)), (1, .ref x), (0, .ref b)] [.int (zI 0)]
  refine v_istore X dL_law_1407 1409 rfl (by decide) (L' := [(7, .int (zI 0)), (6, .int (zI 2)), (5, .int (zI i)), (4, .ref (x + 340)), (3, .ref (x + 339)), (2, .ref (x + 334)), (1, .ref x), (0, .ref b)]) rfl ?_
  refine v_aload_n X dL_law_1409 1410 rfl 5 rfl ?_
  refine v_rdV X hM.C h_mo.1 (c_X10_thrown l E (x + 334) (updC mo 0 (updZ (mo 0) 0 2))) kvX10_thrown kiX10_thrown kl_L_196 rfl rfl (As := []) rfl rfl (rm_law0 rfl (by omega) (by omega)) dL_law_1410 1413 rfl ?_
  show V p l e room_1 s m args below meth cd Q 9 H2 lo2 (kq + 1) (nq + 6) 1413 [(7, .int (zI 0)), (6, .int (zI 2)), (5, .int (zI i)), (4, .ref (x + 340)), (3, .ref (x + 339)), (2, .ref (x + 334)), (1, .ref x), (0, .ref b)] [.int (zI 2)]
  refine v_iload X dL_law_1413 1415 rfl 1 rfl ?_
  refine v_icmp_eq X (by omega) (by omega) dL_law_1415 1418 1420 rfl (by decide) (fun c_3 => ?_) (fun c_3 => ?_)
  · skip
    refine v_iload X dL_law_1420 1422 rfl 1 rfl ?_
    refine v_if_ne X (by omega) dL_law_1422 1425 1437 rfl (by decide) (fun c_4 => ?_) (fun c_4 => ?_)
    · skip
      refine v_goto X dL_law_1437 3555 (by decide) ?_
      refine v_widen (k' := kq + 60) (n' := nq + 4000) (by omega) (by omega) ?_
      exact V_pick [2, 3, 4, 5, 6, 7] rfl (kk _ _ hM ⟨hzl, _, _, _, _, _, _, _, _, _, _, _, _, _, _, _, _, _, _, _, _, _, _, _, _, _, _, _, _, ⟨h_cm, h_co, h_bf, h_sv, h_hi, h_hf, h_dk, h_se, h_pg, h_sb, h_sa, h_pr, h_ln, h_la, h_mo, h_out, h_outD⟩, hP0.mo_0⟩)
    · skip
      exfalso; omega
  · skip
    exfalso; omega
set_option maxHeartbeats 4000000 in
set_option maxRecDepth 20000 in
theorem lo_hasTestified (hl : l.stackTraces = false) (X : CF p m cd code 9 s args RL) (hX : va_X b Lx xs s s.heap) (hbl : b < s.heap.size) (hLx : Lx ≤ 2560) (hM : MS E [] s H lo) (hk : kq + 60 ≤ 603072) (hn : nq + 4000 ≤ 7211113) (hx : s.heap.size ≤ x) (hzl : x + 341 ≤ H.size) {v : Nat} {N : Nat} {f : Int → Int} {nn : Int} {v2 : Nat} {N2 : Nat} {f2 : Int → Int} {n2 : Int} {co : Nat → Int → Int} {bf : Nat → Int → Int} {cv : Nat → Int → Int} {hc : Nat → Nat → Int → Int} {nx : Int} {sz : Int} {hs : Int} {er : Int} {fa : Int} {ss : Int} {dk : Nat → Int → Int} {se : Nat → Int → Int} {po : Int} {si : Int} {pr : Nat → Int → Int} {ml : Int} {ml2 : Int} {mo : Nat → Int → Int} {lg : Nat → Int64} {dg : Nat → UInt64} (hW : LawW E x v N f nn v2 N2 f2 n2 co bf cv hc nx sz hs er fa ss dk se po si pr ml ml2 mo lg dg H) (hP : LawP x v N f nn v2 N2 f2 n2 co cv hc nx sz hs er fa ss po si pr mo) (i0 : 0 ≤ i) (i1 : i + 5 ≤ (Lx : Int)) {a1 : Int} (ha1 : (xs (i + 1).toNat).toInt = a1) (ga1 : Rg a1) {a2 : Int} (ha2 : (xs (i + 2).toNat).toInt = a2) (ga2 : Rg a2) (q0 : 0 ≤ a1 ∧ a1 < co 0 0) (q1 : 0 ≤ a2 ∧ a2 < co 0 1) (kk : ∀ (H1 : Heap) (lo1 : List Loc), MS E [] s H1 lo1 → LawI E x H1 → V p l e room_1 s m args below meth cd Q 9 H1 lo1 (kq + 60) (nq + 4000) 3555 [(5, .int (zI i)), (4, .ref (x + 340)), (3, .ref (x + 339)), (2, .ref (x + 334)), (1, .ref x), (0, .ref b)] []) : V p l e room_1 s m args below meth cd Q 9 H lo kq nq 1440 [(5, .int (zI i)), (4, .ref (x + 340)), (3, .ref (x + 339)), (2, .ref (x + 334)), (1, .ref x), (0, .ref b)] [] := by
  obtain ⟨h_cm, h_co, h_bf, h_sv, h_hi, h_hf, h_dk, h_se, h_pg, h_sb, h_sa, h_pr, h_ln, h_la, h_mo, h_out, h_outD⟩ := hW
  have hP0 := hP
  obtain ⟨⟨hD, hDv, hDh⟩, ⟨hRM, hch, hcs⟩, ⟨⟨n0, n1⟩, ⟨s0, s1⟩, hhs⟩, ⟨hm8, hnn, hAg, hNN, hnN, hf9⟩, ⟨T, hSB, hLT, hn38⟩, hPB, ⟨her, hfa, hss, ger, gfa, gss, gms⟩, ⟨gpo, gsi⟩, ⟨hv1, hv2, hvv⟩⟩ := hP
  have hO := hD.inv.ok
  have hI := hD.inv.ts
  have hSt := hD.inv.st
  have hS := hD.inv.sn
  have hR := hRM.1.2
  have hG := gp_inv hD
  have hb0 := hO.b0
  have hbw := hO.bw
  have hbf : ¬ Fr [] s.heap.size b := fun z => z.elim (fun q => q.elim) (fun q => by omega)
  refine v_aload_n X dL_law_1440 1441 rfl 4 rfl ?_
  refine v_aload_n X dL_law_1441 1442 rfl 5 rfl ?_
  refine v_iload X dL_law_1442 1444 rfl 0 rfl ?_
  refine v_iconst X dL_law_1444 1445 rfl ?_
  refine v_iadd X dL_law_1445 1446 rfl ?_
  refine v_scr X hM hX hbl hbf (by omega) (by omega) hLx ha1 dL_law_1446 1447 rfl ?_
  refine v_aload_n X dL_law_1447 1448 rfl 5 rfl ?_
  refine v_iload X dL_law_1448 1450 rfl 0 rfl ?_
  refine v_iconst X dL_law_1450 1451 rfl ?_
  refine v_iadd X dL_law_1451 1452 rfl ?_
  refine v_scr X hM hX hbl hbf (by omega) (by omega) hLx ha2 dL_law_1452 1453 rfl ?_
  refine v_aload_n X dL_law_1453 1454 rfl 2 rfl ?_
  refine v_mwS X hM (w_X9_hasTestified l hl E x co hs er fa ss a1 a2 (x + 339) lg hO ga1 ga2 q0 q1 (by omega) (by omega)) kwL_hasTestified ksL_hasTestified kl_L_254 (As := [.ref x, .int (zI a1), .int (zI a2), .ref (x + 339)]) rfl rfl (rm_lawW rfl (by omega) (by omega)) dL_law_1454 1457 rfl (k' := kq + 1) (n' := nq + 6) rfl rfl (fsI (fun q q1 q2 => (Or.inr (by omega)))) ⟨h_cm, h_co, h_out⟩ (fun rv H1 lo1 hM hF hpo => ?_)
  obtain ⟨rfl, hw_0⟩ := hpo
  have h_out : PR E (x + 339) [(x + 339, .inl (E 102 4, 1, .inr (.inl (fun _ => zL (bz (0 < co 9 (a1 * 8 + a2)))))))] H1 := hw_0
  replace hzl := Nat.le_trans hzl hF.1
  replace h_cm := h_cm.kept hF 1 rfl (fsd (by omega))
  replace h_co := h_co.kept hF 28 rfl (fsd (by omega))
  replace h_bf := h_bf.kept hF 28 rfl (fsd (by omega))
  replace h_sv := h_sv.kept hF 28 rfl (fsd (by omega))
  replace h_hi := h_hi.kept hF 2 rfl (fsd (by omega))
  replace h_hf := h_hf.kept hF (fsd (by omega))
  replace h_dk := h_dk.kept hF 3 rfl (fsd (by omega))
  replace h_se := h_se.kept hF 5 rfl (fsd (by omega))
  replace h_pg := h_pg.kept hF 1 rfl (fsd (by omega))
  replace h_sb := h_sb.kept hF 1 rfl (fsd (by omega))
  replace h_sa := h_sa.kept hF 1 rfl (fsd (by omega))
  replace h_pr := h_pr.kept hF 10 rfl (fsd (by omega))
  replace h_ln := h_ln.kept hF 1 rfl (fsd (by omega))
  replace h_la := h_la.kept hF 1 rfl (fsd (by omega))
  replace h_mo := h_mo.kept hF 5 rfl (fsd (by omega))
  replace h_outD := h_outD.kept hF 1 rfl (fsd (by omega))
  show V p l e room_1 s m args below meth cd Q 9 H1 lo1 (kq + 1) (nq + 6) 1457 [(5, .int (zI i)), (4, .ref (x + 340)), (3, .ref (x + 339)), (2, .ref (x + 334)), (1, .ref x), (0, .ref b)] [.int (zI 0)]
  refine v_istore X dL_law_1457 1459 rfl (by decide) (L' := [(6, .int (zI 0)), (5, .int (zI i)), (4, .ref (x + 340)), (3, .ref (x + 339)), (2, .ref (x + 334)), (1, .ref x), (0, .ref b)]) rfl ?_
  refine v_aload_n X dL_law_1459 1460 rfl 4 rfl ?_
  refine v_aload_n X dL_law_1460 1461 rfl 6 rfl ?_
  refine v_iload X dL_law_1461 1463 rfl 1 rfl ?_
  refine v_iconst X dL_law_1463 1464 rfl ?_
  refine v_iadd X dL_law_1464 1465 rfl ?_
  refine v_scr X hM hX hbl hbf (by omega) (by omega) hLx ha1 dL_law_1465 1466 rfl ?_
  refine v_aload_n X dL_law_1466 1467 rfl 6 rfl ?_
  refine v_iload X dL_law_1467 1469 rfl 1 rfl ?_
  refine v_iconst X dL_law_1469 1470 rfl ?_
  refine v_iadd X dL_law_1470 1471 rfl ?_
  refine v_scr X hM hX hbl hbf (by omega) (by omega) hLx ha2 dL_law_1471 1472 rfl ?_
  refine v_muV X hM (h_mo.1) (c_X10_hasTestified l E (x + 334) mo co a1 a2 hO hR hI ga1 ga2 q0 q1) kvX10_hasTestified kiX10_hasTestified kl_L_256 (q0 := 0) rfl rfl (As := [.int (zI a1), .int (zI a2)]) rfl rfl (rm_law rfl (by omega) (by omega)) dL_law_1472 1475 rfl (k' := kq + 1) (n' := nq + 6) rfl rfl (fsI (fun q q1 q2 => (Or.inr (by omega)))) h_mo (fun rv H2 lo2 hM hF hpo => ?_)
  obtain ⟨rfl, hw_0⟩ := hpo
  have h_mo : PR E (x + 334) (modelW E (x + 334) (updC mo 0 (updZ (mo 0) 0 0))) H2 := hw_0
  replace hzl := Nat.le_trans hzl hF.1
  replace h_cm := h_cm.kept hF 1 rfl (fsd (by omega))
  replace h_co := h_co.kept hF 28 rfl (fsd (by omega))
  replace h_bf := h_bf.kept hF 28 rfl (fsd (by omega))
  replace h_sv := h_sv.kept hF 28 rfl (fsd (by omega))
  replace h_hi := h_hi.kept hF 2 rfl (fsd (by omega))
  replace h_hf := h_hf.kept hF (fsd (by omega))
  replace h_dk := h_dk.kept hF 3 rfl (fsd (by omega))
  replace h_se := h_se.kept hF 5 rfl (fsd (by omega))
  replace h_pg := h_pg.kept hF 1 rfl (fsd (by omega))
  replace h_sb := h_sb.kept hF 1 rfl (fsd (by omega))
  replace h_sa := h_sa.kept hF 1 rfl (fsd (by omega))
  replace h_pr := h_pr.kept hF 10 rfl (fsd (by omega))
  replace h_ln := h_ln.kept hF 1 rfl (fsd (by omega))
  replace h_la := h_la.kept hF 1 rfl (fsd (by omega))
  replace h_out := h_out.kept hF 1 rfl (fsd (by omega))
  replace h_outD := h_outD.kept hF 1 rfl (fsd (by omega))
  show V p l e room_1 s m args below meth cd Q 9 H2 lo2 (kq + 1) (nq + 6) 1475 [(6, .int (zI 0)), (5, .int (zI i)), (4, .ref (x + 340)), (3, .ref (x + 339)), (2, .ref (x + 334)), (1, .ref x), (0, .ref b)] [.int (zI (bz (0 < co 9 (a1 * 8 + a2))))]
  refine v_istore X dL_law_1475 1477 rfl (by decide) (L' := [(7, .int (zI (bz (0 < co 9 (a1 * 8 + a2))))), (6, .int (zI 0)), (5, .int (zI i)), (4, .ref (x + 340)), (3, .ref (x + 339)), (2, .ref (x + 334)), (1, .ref x), (0, .ref b)]) rfl ?_
  refine v_aload_n X dL_law_1477 1478 rfl 5 rfl ?_
  refine v_rdV X hM.C h_mo.1 (c_X10_thrown l E (x + 334) (updC mo 0 (updZ (mo 0) 0 0))) kvX10_thrown kiX10_thrown kl_L_196 rfl rfl (As := []) rfl rfl (rm_law0 rfl (by omega) (by omega)) dL_law_1478 1481 rfl ?_
  show V p l e room_1 s m args below meth cd Q 9 H2 lo2 (kq + 1) (nq + 6) 1481 [(7, .int (zI (bz (0 < co 9 (a1 * 8 + a2))))), (6, .int (zI 0)), (5, .int (zI i)), (4, .ref (x + 340)), (3, .ref (x + 339)), (2, .ref (x + 334)), (1, .ref x), (0, .ref b)] [.int (zI 0)]
  refine v_iload X dL_law_1481 1483 rfl 1 rfl ?_
  refine v_icmp_eq X (by omega) (by omega) dL_law_1483 1486 1488 rfl (by decide) (fun c_3 => ?_) (fun c_3 => ?_)
  · skip
    refine v_iload X dL_law_1488 1490 rfl 1 rfl ?_
    refine v_if_ne X (by omega) dL_law_1490 1493 1512 rfl (by decide) (fun c_4 => ?_) (fun c_4 => ?_)
    · skip
      exfalso; omega
    · skip
      refine v_aload_n X dL_law_1493 1494 rfl 4 rfl ?_
      refine v_iconst X dL_law_1494 1495 rfl ?_
      refine v_lald X hM.C h_out.1 0 rfl dL_law_1495 1496 rfl ?_
      show V p l e room_1 s m args below meth cd Q 9 H2 lo2 (kq + 1) (nq + 6) 1496 [(7, .int (zI (bz (0 < co 9 (a1 * 8 + a2))))), (6, .int (zI 0)), (5, .int (zI i)), (4, .ref (x + 340)), (3, .ref (x + 339)), (2, .ref (x + 334)), (1, .ref x), (0, .ref b)] [.long (zL (bz (0 < co 9 (a1 * 8 + a2))))]
      refine v_iload X dL_law_1496 1498 rfl 0 rfl ?_
      refine v_bif_eq X dL_law_1498 1501 1505 rfl (by decide) (fun c_5 => ?_) (fun c_5 => ?_)
      · skip
        refine v_lconst 0 X dL_law_1505 rfl 1506 rfl ?_
        refine V_S (st' := [.long (zL 0), .long (zL 0)]) (by rw [show (bz (0 < co 9 (a1 * 8 + a2)) : Int) = 0 from bz_f (by first | assumption | omega)]) ?_
        refine v_lcmp0 X dL_law_1506 1507 rfl ?_
        refine v_if_eq X (by omega) dL_law_1507 1510 1512 rfl (by decide) (fun c_6 => ?_) (fun c_6 => ?_)
        · skip
          refine v_goto X dL_law_1512 3555 (by decide) ?_
          refine v_widen (k' := kq + 60) (n' := nq + 4000) (by omega) (by omega) ?_
          exact V_pick [2, 3, 4, 5, 6, 7] rfl (kk _ _ hM ⟨hzl, _, _, _, _, _, _, _, _, _, _, _, _, _, _, _, _, _, _, _, _, _, _, _, _, _, _, _, _, ⟨h_cm, h_co, h_bf, h_sv, h_hi, h_hf, h_dk, h_se, h_pg, h_sb, h_sa, h_pr, h_ln, h_la, h_mo, h_out, h_outD⟩, hP0.mo_0⟩)
        · skip
          exfalso; omega
      · skip
        refine v_lconst 1 X dL_law_1501 rfl 1502 rfl ?_
        refine v_goto X dL_law_1502 1506 (by decide) ?_
        refine V_S (st' := [.long (zL 1), .long (zL 1)]) (by rw [show (bz (0 < co 9 (a1 * 8 + a2)) : Int) = 1 from bz_t (by first | assumption | omega)]) ?_
        refine v_lcmp0 X dL_law_1506 1507 rfl ?_
        refine v_if_eq X (by omega) dL_law_1507 1510 1512 rfl (by decide) (fun c_7 => ?_) (fun c_7 => ?_)
        · skip
          refine v_goto X dL_law_1512 3555 (by decide) ?_
          refine v_widen (k' := kq + 60) (n' := nq + 4000) (by omega) (by omega) ?_
          exact V_pick [2, 3, 4, 5, 6, 7] rfl (kk _ _ hM ⟨hzl, _, _, _, _, _, _, _, _, _, _, _, _, _, _, _, _, _, _, _, _, _, _, _, _, _, _, _, _, ⟨h_cm, h_co, h_bf, h_sv, h_hi, h_hf, h_dk, h_se, h_pg, h_sb, h_sa, h_pr, h_ln, h_la, h_mo, h_out, h_outD⟩, hP0.mo_0⟩)
        · skip
          exfalso; omega
  · skip
    exfalso; omega
set_option maxHeartbeats 4000000 in
set_option maxRecDepth 20000 in
theorem lo_hasTestified_1 (hl : l.stackTraces = false) (X : CF p m cd code 9 s args RL) (hX : va_X b Lx xs s s.heap) (hbl : b < s.heap.size) (hLx : Lx ≤ 2560) (hM : MS E [] s H lo) (hk : kq + 60 ≤ 603072) (hn : nq + 4000 ≤ 7211113) (hx : s.heap.size ≤ x) (hzl : x + 341 ≤ H.size) {v : Nat} {N : Nat} {f : Int → Int} {nn : Int} {v2 : Nat} {N2 : Nat} {f2 : Int → Int} {n2 : Int} {co : Nat → Int → Int} {bf : Nat → Int → Int} {cv : Nat → Int → Int} {hc : Nat → Nat → Int → Int} {nx : Int} {sz : Int} {hs : Int} {er : Int} {fa : Int} {ss : Int} {dk : Nat → Int → Int} {se : Nat → Int → Int} {po : Int} {si : Int} {pr : Nat → Int → Int} {ml : Int} {ml2 : Int} {mo : Nat → Int → Int} {lg : Nat → Int64} {dg : Nat → UInt64} (hW : LawW E x v N f nn v2 N2 f2 n2 co bf cv hc nx sz hs er fa ss dk se po si pr ml ml2 mo lg dg H) (hP : LawP x v N f nn v2 N2 f2 n2 co cv hc nx sz hs er fa ss po si pr mo) (i0 : 0 ≤ i) (i1 : i + 5 ≤ (Lx : Int)) {a1 : Int} (ha1 : (xs (i + 1).toNat).toInt = a1) (ga1 : Rg a1) {a2 : Int} (ha2 : (xs (i + 2).toNat).toInt = a2) (ga2 : Rg a2) (q0 : ¬ (0 ≤ a1 ∧ a1 < co 0 0)) (kk : ∀ (H1 : Heap) (lo1 : List Loc), MS E [] s H1 lo1 → LawI E x H1 → V p l e room_1 s m args below meth cd Q 9 H1 lo1 (kq + 60) (nq + 4000) 3555 [(5, .int (zI i)), (4, .ref (x + 340)), (3, .ref (x + 339)), (2, .ref (x + 334)), (1, .ref x), (0, .ref b)] []) : V p l e room_1 s m args below meth cd Q 9 H lo kq nq 1440 [(5, .int (zI i)), (4, .ref (x + 340)), (3, .ref (x + 339)), (2, .ref (x + 334)), (1, .ref x), (0, .ref b)] [] := by
  obtain ⟨h_cm, h_co, h_bf, h_sv, h_hi, h_hf, h_dk, h_se, h_pg, h_sb, h_sa, h_pr, h_ln, h_la, h_mo, h_out, h_outD⟩ := hW
  have hP0 := hP
  obtain ⟨⟨hD, hDv, hDh⟩, ⟨hRM, hch, hcs⟩, ⟨⟨n0, n1⟩, ⟨s0, s1⟩, hhs⟩, ⟨hm8, hnn, hAg, hNN, hnN, hf9⟩, ⟨T, hSB, hLT, hn38⟩, hPB, ⟨her, hfa, hss, ger, gfa, gss, gms⟩, ⟨gpo, gsi⟩, ⟨hv1, hv2, hvv⟩⟩ := hP
  have hO := hD.inv.ok
  have hI := hD.inv.ts
  have hSt := hD.inv.st
  have hS := hD.inv.sn
  have hR := hRM.1.2
  have hG := gp_inv hD
  have hb0 := hO.b0
  have hbw := hO.bw
  have hbf : ¬ Fr [] s.heap.size b := fun z => z.elim (fun q => q.elim) (fun q => by omega)
  refine v_aload_n X dL_law_1440 1441 rfl 4 rfl ?_
  refine v_aload_n X dL_law_1441 1442 rfl 5 rfl ?_
  refine v_iload X dL_law_1442 1444 rfl 0 rfl ?_
  refine v_iconst X dL_law_1444 1445 rfl ?_
  refine v_iadd X dL_law_1445 1446 rfl ?_
  refine v_scr X hM hX hbl hbf (by omega) (by omega) hLx ha1 dL_law_1446 1447 rfl ?_
  refine v_aload_n X dL_law_1447 1448 rfl 5 rfl ?_
  refine v_iload X dL_law_1448 1450 rfl 0 rfl ?_
  refine v_iconst X dL_law_1450 1451 rfl ?_
  refine v_iadd X dL_law_1451 1452 rfl ?_
  refine v_scr X hM hX hbl hbf (by omega) (by omega) hLx ha2 dL_law_1452 1453 rfl ?_
  refine v_aload_n X dL_law_1453 1454 rfl 2 rfl ?_
  refine v_mwS X hM (w_X9_hasTestified_0_t l hl E x co hs er fa ss a1 a2 (x + 339) lg hO ga1 ga2 q0) kwL_hasTestified ksL_hasTestified kl_L_254 (As := [.ref x, .int (zI a1), .int (zI a2), .ref (x + 339)]) rfl rfl (rm_lawW rfl (by omega) (by omega)) dL_law_1454 1457 rfl (k' := kq + 1) (n' := nq + 6) rfl rfl (fun q hq => hq.elim) ⟨h_cm, h_co, h_out⟩ (fun rv H1 lo1 hM hF hpo => ?_)
  subst hpo
  replace hzl := Nat.le_trans hzl hF.1
  replace h_cm := h_cm.kept hF 1 rfl (fun q _ _ h => h.elim)
  replace h_co := h_co.kept hF 28 rfl (fun q _ _ h => h.elim)
  replace h_bf := h_bf.kept hF 28 rfl (fun q _ _ h => h.elim)
  replace h_sv := h_sv.kept hF 28 rfl (fun q _ _ h => h.elim)
  replace h_hi := h_hi.kept hF 2 rfl (fun q _ _ h => h.elim)
  replace h_hf := h_hf.kept hF (fun q _ _ h => h.elim)
  replace h_dk := h_dk.kept hF 3 rfl (fun q _ _ h => h.elim)
  replace h_se := h_se.kept hF 5 rfl (fun q _ _ h => h.elim)
  replace h_pg := h_pg.kept hF 1 rfl (fun q _ _ h => h.elim)
  replace h_sb := h_sb.kept hF 1 rfl (fun q _ _ h => h.elim)
  replace h_sa := h_sa.kept hF 1 rfl (fun q _ _ h => h.elim)
  replace h_pr := h_pr.kept hF 10 rfl (fun q _ _ h => h.elim)
  replace h_ln := h_ln.kept hF 1 rfl (fun q _ _ h => h.elim)
  replace h_la := h_la.kept hF 1 rfl (fun q _ _ h => h.elim)
  replace h_mo := h_mo.kept hF 5 rfl (fun q _ _ h => h.elim)
  replace h_out := h_out.kept hF 1 rfl (fun q _ _ h => h.elim)
  replace h_outD := h_outD.kept hF 1 rfl (fun q _ _ h => h.elim)
  show V p l e room_1 s m args below meth cd Q 9 H1 lo1 (kq + 1) (nq + 6) 1457 [(5, .int (zI i)), (4, .ref (x + 340)), (3, .ref (x + 339)), (2, .ref (x + 334)), (1, .ref x), (0, .ref b)] [.int (zI 1)]
  refine v_istore X dL_law_1457 1459 rfl (by decide) (L' := [(6, .int (zI 1)), (5, .int (zI i)), (4, .ref (x + 340)), (3, .ref (x + 339)), (2, .ref (x + 334)), (1, .ref x), (0, .ref b)]) rfl ?_
  refine v_aload_n X dL_law_1459 1460 rfl 4 rfl ?_
  refine v_aload_n X dL_law_1460 1461 rfl 6 rfl ?_
  refine v_iload X dL_law_1461 1463 rfl 1 rfl ?_
  refine v_iconst X dL_law_1463 1464 rfl ?_
  refine v_iadd X dL_law_1464 1465 rfl ?_
  refine v_scr X hM hX hbl hbf (by omega) (by omega) hLx ha1 dL_law_1465 1466 rfl ?_
  refine v_aload_n X dL_law_1466 1467 rfl 6 rfl ?_
  refine v_iload X dL_law_1467 1469 rfl 1 rfl ?_
  refine v_iconst X dL_law_1469 1470 rfl ?_
  refine v_iadd X dL_law_1470 1471 rfl ?_
  refine v_scr X hM hX hbl hbf (by omega) (by omega) hLx ha2 dL_law_1471 1472 rfl ?_
  refine v_muV X hM (h_mo.1) (c_X10_hasTestified_0 l E (x + 334) mo co a1 a2 hO hR hI ga1 ga2 q0) kvX10_hasTestified kiX10_hasTestified kl_L_256 (q0 := 0) rfl rfl (As := [.int (zI a1), .int (zI a2)]) rfl rfl (rm_law rfl (by omega) (by omega)) dL_law_1472 1475 rfl (k' := kq + 1) (n' := nq + 6) rfl rfl (fsI (fun q q1 q2 => (Or.inr (by omega)))) h_mo (fun rv H2 lo2 hM hF hpo => ?_)
  obtain ⟨rfl, hw_0⟩ := hpo
  have h_mo : PR E (x + 334) (modelW E (x + 334) (updC mo 0 (updZ (mo 0) 0 1))) H2 := hw_0
  replace hzl := Nat.le_trans hzl hF.1
  replace h_cm := h_cm.kept hF 1 rfl (fsd (by omega))
  replace h_co := h_co.kept hF 28 rfl (fsd (by omega))
  replace h_bf := h_bf.kept hF 28 rfl (fsd (by omega))
  replace h_sv := h_sv.kept hF 28 rfl (fsd (by omega))
  replace h_hi := h_hi.kept hF 2 rfl (fsd (by omega))
  replace h_hf := h_hf.kept hF (fsd (by omega))
  replace h_dk := h_dk.kept hF 3 rfl (fsd (by omega))
  replace h_se := h_se.kept hF 5 rfl (fsd (by omega))
  replace h_pg := h_pg.kept hF 1 rfl (fsd (by omega))
  replace h_sb := h_sb.kept hF 1 rfl (fsd (by omega))
  replace h_sa := h_sa.kept hF 1 rfl (fsd (by omega))
  replace h_pr := h_pr.kept hF 10 rfl (fsd (by omega))
  replace h_ln := h_ln.kept hF 1 rfl (fsd (by omega))
  replace h_la := h_la.kept hF 1 rfl (fsd (by omega))
  replace h_out := h_out.kept hF 1 rfl (fsd (by omega))
  replace h_outD := h_outD.kept hF 1 rfl (fsd (by omega))
  show V p l e room_1 s m args below meth cd Q 9 H2 lo2 (kq + 1) (nq + 6) 1475 [(6, .int (zI 1)), (5, .int (zI i)), (4, .ref (x + 340)), (3, .ref (x + 339)), (2, .ref (x + 334)), (1, .ref x), (0, .ref b)] [.int (zI 0)]
  refine v_istore X dL_law_1475 1477 rfl (by decide) (L' := [(7, .int (zI 0)), (6, .int (zI 1)), (5, .int (zI i)), (4, .ref (x + 340)), (3, .ref (x + 339)), (2, .ref (x + 334)), (1, .ref x), (0, .ref b)]) rfl ?_
  refine v_aload_n X dL_law_1477 1478 rfl 5 rfl ?_
  refine v_rdV X hM.C h_mo.1 (c_X10_thrown l E (x + 334) (updC mo 0 (updZ (mo 0) 0 1))) kvX10_thrown kiX10_thrown kl_L_196 rfl rfl (As := []) rfl rfl (rm_law0 rfl (by omega) (by omega)) dL_law_1478 1481 rfl ?_
  show V p l e room_1 s m args below meth cd Q 9 H2 lo2 (kq + 1) (nq + 6) 1481 [(7, .int (zI 0)), (6, .int (zI 1)), (5, .int (zI i)), (4, .ref (x + 340)), (3, .ref (x + 339)), (2, .ref (x + 334)), (1, .ref x), (0, .ref b)] [.int (zI 1)]
  refine v_iload X dL_law_1481 1483 rfl 1 rfl ?_
  refine v_icmp_eq X (by omega) (by omega) dL_law_1483 1486 1488 rfl (by decide) (fun c_3 => ?_) (fun c_3 => ?_)
  · skip
    refine v_iload X dL_law_1488 1490 rfl 1 rfl ?_
    refine v_if_ne X (by omega) dL_law_1490 1493 1512 rfl (by decide) (fun c_4 => ?_) (fun c_4 => ?_)
    · skip
      refine v_goto X dL_law_1512 3555 (by decide) ?_
      refine v_widen (k' := kq + 60) (n' := nq + 4000) (by omega) (by omega) ?_
      exact V_pick [2, 3, 4, 5, 6, 7] rfl (kk _ _ hM ⟨hzl, _, _, _, _, _, _, _, _, _, _, _, _, _, _, _, _, _, _, _, _, _, _, _, _, _, _, _, _, ⟨h_cm, h_co, h_bf, h_sv, h_hi, h_hf, h_dk, h_se, h_pg, h_sb, h_sa, h_pr, h_ln, h_la, h_mo, h_out, h_outD⟩, hP0.mo_0⟩)
    · skip
      exfalso; omega
  · skip
    exfalso; omega
set_option maxHeartbeats 4000000 in
set_option maxRecDepth 20000 in
theorem lo_hasTestified_2 (hl : l.stackTraces = false) (X : CF p m cd code 9 s args RL) (hX : va_X b Lx xs s s.heap) (hbl : b < s.heap.size) (hLx : Lx ≤ 2560) (hM : MS E [] s H lo) (hk : kq + 60 ≤ 603072) (hn : nq + 4000 ≤ 7211113) (hx : s.heap.size ≤ x) (hzl : x + 341 ≤ H.size) {v : Nat} {N : Nat} {f : Int → Int} {nn : Int} {v2 : Nat} {N2 : Nat} {f2 : Int → Int} {n2 : Int} {co : Nat → Int → Int} {bf : Nat → Int → Int} {cv : Nat → Int → Int} {hc : Nat → Nat → Int → Int} {nx : Int} {sz : Int} {hs : Int} {er : Int} {fa : Int} {ss : Int} {dk : Nat → Int → Int} {se : Nat → Int → Int} {po : Int} {si : Int} {pr : Nat → Int → Int} {ml : Int} {ml2 : Int} {mo : Nat → Int → Int} {lg : Nat → Int64} {dg : Nat → UInt64} (hW : LawW E x v N f nn v2 N2 f2 n2 co bf cv hc nx sz hs er fa ss dk se po si pr ml ml2 mo lg dg H) (hP : LawP x v N f nn v2 N2 f2 n2 co cv hc nx sz hs er fa ss po si pr mo) (i0 : 0 ≤ i) (i1 : i + 5 ≤ (Lx : Int)) {a1 : Int} (ha1 : (xs (i + 1).toNat).toInt = a1) (ga1 : Rg a1) {a2 : Int} (ha2 : (xs (i + 2).toNat).toInt = a2) (ga2 : Rg a2) (q0 : 0 ≤ a1 ∧ a1 < co 0 0) (q1 : ¬ (0 ≤ a2 ∧ a2 < co 0 1)) (kk : ∀ (H1 : Heap) (lo1 : List Loc), MS E [] s H1 lo1 → LawI E x H1 → V p l e room_1 s m args below meth cd Q 9 H1 lo1 (kq + 60) (nq + 4000) 3555 [(5, .int (zI i)), (4, .ref (x + 340)), (3, .ref (x + 339)), (2, .ref (x + 334)), (1, .ref x), (0, .ref b)] []) : V p l e room_1 s m args below meth cd Q 9 H lo kq nq 1440 [(5, .int (zI i)), (4, .ref (x + 340)), (3, .ref (x + 339)), (2, .ref (x + 334)), (1, .ref x), (0, .ref b)] [] := by
  obtain ⟨h_cm, h_co, h_bf, h_sv, h_hi, h_hf, h_dk, h_se, h_pg, h_sb, h_sa, h_pr, h_ln, h_la, h_mo, h_out, h_outD⟩ := hW
  have hP0 := hP
  obtain ⟨⟨hD, hDv, hDh⟩, ⟨hRM, hch, hcs⟩, ⟨⟨n0, n1⟩, ⟨s0, s1⟩, hhs⟩, ⟨hm8, hnn, hAg, hNN, hnN, hf9⟩, ⟨T, hSB, hLT, hn38⟩, hPB, ⟨her, hfa, hss, ger, gfa, gss, gms⟩, ⟨gpo, gsi⟩, ⟨hv1, hv2, hvv⟩⟩ := hP
  have hO := hD.inv.ok
  have hI := hD.inv.ts
  have hSt := hD.inv.st
  have hS := hD.inv.sn
  have hR := hRM.1.2
  have hG := gp_inv hD
  have hb0 := hO.b0
  have hbw := hO.bw
  have hbf : ¬ Fr [] s.heap.size b := fun z => z.elim (fun q => q.elim) (fun q => by omega)
  refine v_aload_n X dL_law_1440 1441 rfl 4 rfl ?_
  refine v_aload_n X dL_law_1441 1442 rfl 5 rfl ?_
  refine v_iload X dL_law_1442 1444 rfl 0 rfl ?_
  refine v_iconst X dL_law_1444 1445 rfl ?_
  refine v_iadd X dL_law_1445 1446 rfl ?_
  refine v_scr X hM hX hbl hbf (by omega) (by omega) hLx ha1 dL_law_1446 1447 rfl ?_
  refine v_aload_n X dL_law_1447 1448 rfl 5 rfl ?_
  refine v_iload X dL_law_1448 1450 rfl 0 rfl ?_
  refine v_iconst X dL_law_1450 1451 rfl ?_
  refine v_iadd X dL_law_1451 1452 rfl ?_
  refine v_scr X hM hX hbl hbf (by omega) (by omega) hLx ha2 dL_law_1452 1453 rfl ?_
  refine v_aload_n X dL_law_1453 1454 rfl 2 rfl ?_
  refine v_mwS X hM (w_X9_hasTestified_1_t l hl E x co hs er fa ss a1 a2 (x + 339) lg hO ga1 ga2 q0 q1) kwL_hasTestified ksL_hasTestified kl_L_254 (As := [.ref x, .int (zI a1), .int (zI a2), .ref (x + 339)]) rfl rfl (rm_lawW rfl (by omega) (by omega)) dL_law_1454 1457 rfl (k' := kq + 1) (n' := nq + 6) rfl rfl (fun q hq => hq.elim) ⟨h_cm, h_co, h_out⟩ (fun rv H1 lo1 hM hF hpo => ?_)
  subst hpo
  replace hzl := Nat.le_trans hzl hF.1
  replace h_cm := h_cm.kept hF 1 rfl (fun q _ _ h => h.elim)
  replace h_co := h_co.kept hF 28 rfl (fun q _ _ h => h.elim)
  replace h_bf := h_bf.kept hF 28 rfl (fun q _ _ h => h.elim)
  replace h_sv := h_sv.kept hF 28 rfl (fun q _ _ h => h.elim)
  replace h_hi := h_hi.kept hF 2 rfl (fun q _ _ h => h.elim)
  replace h_hf := h_hf.kept hF (fun q _ _ h => h.elim)
  replace h_dk := h_dk.kept hF 3 rfl (fun q _ _ h => h.elim)
  replace h_se := h_se.kept hF 5 rfl (fun q _ _ h => h.elim)
  replace h_pg := h_pg.kept hF 1 rfl (fun q _ _ h => h.elim)
  replace h_sb := h_sb.kept hF 1 rfl (fun q _ _ h => h.elim)
  replace h_sa := h_sa.kept hF 1 rfl (fun q _ _ h => h.elim)
  replace h_pr := h_pr.kept hF 10 rfl (fun q _ _ h => h.elim)
  replace h_ln := h_ln.kept hF 1 rfl (fun q _ _ h => h.elim)
  replace h_la := h_la.kept hF 1 rfl (fun q _ _ h => h.elim)
  replace h_mo := h_mo.kept hF 5 rfl (fun q _ _ h => h.elim)
  replace h_out := h_out.kept hF 1 rfl (fun q _ _ h => h.elim)
  replace h_outD := h_outD.kept hF 1 rfl (fun q _ _ h => h.elim)
  show V p l e room_1 s m args below meth cd Q 9 H1 lo1 (kq + 1) (nq + 6) 1457 [(5, .int (zI i)), (4, .ref (x + 340)), (3, .ref (x + 339)), (2, .ref (x + 334)), (1, .ref x), (0, .ref b)] [.int (zI 1)]
  refine v_istore X dL_law_1457 1459 rfl (by decide) (L' := [(6, .int (zI 1)), (5, .int (zI i)), (4, .ref (x + 340)), (3, .ref (x + 339)), (2, .ref (x + 334)), (1, .ref x), (0, .ref b)]) rfl ?_
  refine v_aload_n X dL_law_1459 1460 rfl 4 rfl ?_
  refine v_aload_n X dL_law_1460 1461 rfl 6 rfl ?_
  refine v_iload X dL_law_1461 1463 rfl 1 rfl ?_
  refine v_iconst X dL_law_1463 1464 rfl ?_
  refine v_iadd X dL_law_1464 1465 rfl ?_
  refine v_scr X hM hX hbl hbf (by omega) (by omega) hLx ha1 dL_law_1465 1466 rfl ?_
  refine v_aload_n X dL_law_1466 1467 rfl 6 rfl ?_
  refine v_iload X dL_law_1467 1469 rfl 1 rfl ?_
  refine v_iconst X dL_law_1469 1470 rfl ?_
  refine v_iadd X dL_law_1470 1471 rfl ?_
  refine v_scr X hM hX hbl hbf (by omega) (by omega) hLx ha2 dL_law_1471 1472 rfl ?_
  refine v_muV X hM (h_mo.1) (c_X10_hasTestified_1 l E (x + 334) mo co a1 a2 hO hR hI ga1 ga2 q0 q1) kvX10_hasTestified kiX10_hasTestified kl_L_256 (q0 := 0) rfl rfl (As := [.int (zI a1), .int (zI a2)]) rfl rfl (rm_law rfl (by omega) (by omega)) dL_law_1472 1475 rfl (k' := kq + 1) (n' := nq + 6) rfl rfl (fsI (fun q q1 q2 => (Or.inr (by omega)))) h_mo (fun rv H2 lo2 hM hF hpo => ?_)
  obtain ⟨rfl, hw_0⟩ := hpo
  have h_mo : PR E (x + 334) (modelW E (x + 334) (updC mo 0 (updZ (mo 0) 0 1))) H2 := hw_0
  replace hzl := Nat.le_trans hzl hF.1
  replace h_cm := h_cm.kept hF 1 rfl (fsd (by omega))
  replace h_co := h_co.kept hF 28 rfl (fsd (by omega))
  replace h_bf := h_bf.kept hF 28 rfl (fsd (by omega))
  replace h_sv := h_sv.kept hF 28 rfl (fsd (by omega))
  replace h_hi := h_hi.kept hF 2 rfl (fsd (by omega))
  replace h_hf := h_hf.kept hF (fsd (by omega))
  replace h_dk := h_dk.kept hF 3 rfl (fsd (by omega))
  replace h_se := h_se.kept hF 5 rfl (fsd (by omega))
  replace h_pg := h_pg.kept hF 1 rfl (fsd (by omega))
  replace h_sb := h_sb.kept hF 1 rfl (fsd (by omega))
  replace h_sa := h_sa.kept hF 1 rfl (fsd (by omega))
  replace h_pr := h_pr.kept hF 10 rfl (fsd (by omega))
  replace h_ln := h_ln.kept hF 1 rfl (fsd (by omega))
  replace h_la := h_la.kept hF 1 rfl (fsd (by omega))
  replace h_out := h_out.kept hF 1 rfl (fsd (by omega))
  replace h_outD := h_outD.kept hF 1 rfl (fsd (by omega))
  show V p l e room_1 s m args below meth cd Q 9 H2 lo2 (kq + 1) (nq + 6) 1475 [(6, .int (zI 1)), (5, .int (zI i)), (4, .ref (x + 340)), (3, .ref (x + 339)), (2, .ref (x + 334)), (1, .ref x), (0, .ref b)] [.int (zI 0)]
  refine v_istore X dL_law_1475 1477 rfl (by decide) (L' := [(7, .int (zI 0)), (6, .int (zI 1)), (5, .int (zI i)), (4, .ref (x + 340)), (3, .ref (x + 339)), (2, .ref (x + 334)), (1, .ref x), (0, .ref b)]) rfl ?_
  refine v_aload_n X dL_law_1477 1478 rfl 5 rfl ?_
  refine v_rdV X hM.C h_mo.1 (c_X10_thrown l E (x + 334) (updC mo 0 (updZ (mo 0) 0 1))) kvX10_thrown kiX10_thrown kl_L_196 rfl rfl (As := []) rfl rfl (rm_law0 rfl (by omega) (by omega)) dL_law_1478 1481 rfl ?_
  show V p l e room_1 s m args below meth cd Q 9 H2 lo2 (kq + 1) (nq + 6) 1481 [(7, .int (zI 0)), (6, .int (zI 1)), (5, .int (zI i)), (4, .ref (x + 340)), (3, .ref (x + 339)), (2, .ref (x + 334)), (1, .ref x), (0, .ref b)] [.int (zI 1)]
  refine v_iload X dL_law_1481 1483 rfl 1 rfl ?_
  refine v_icmp_eq X (by omega) (by omega) dL_law_1483 1486 1488 rfl (by decide) (fun c_3 => ?_) (fun c_3 => ?_)
  · skip
    refine v_iload X dL_law_1488 1490 rfl 1 rfl ?_
    refine v_if_ne X (by omega) dL_law_1490 1493 1512 rfl (by decide) (fun c_4 => ?_) (fun c_4 => ?_)
    · skip
      refine v_goto X dL_law_1512 3555 (by decide) ?_
      refine v_widen (k' := kq + 60) (n' := nq + 4000) (by omega) (by omega) ?_
      exact V_pick [2, 3, 4, 5, 6, 7] rfl (kk _ _ hM ⟨hzl, _, _, _, _, _, _, _, _, _, _, _, _, _, _, _, _, _, _, _, _, _, _, _, _, _, _, _, _, ⟨h_cm, h_co, h_bf, h_sv, h_hi, h_hf, h_dk, h_se, h_pg, h_sb, h_sa, h_pr, h_ln, h_la, h_mo, h_out, h_outD⟩, hP0.mo_0⟩)
    · skip
      exfalso; omega
  · skip
    exfalso; omega
set_option maxHeartbeats 4000000 in
set_option maxRecDepth 20000 in
theorem lo_isForProsecution (hl : l.stackTraces = false) (X : CF p m cd code 9 s args RL) (hX : va_X b Lx xs s s.heap) (hbl : b < s.heap.size) (hLx : Lx ≤ 2560) (hM : MS E [] s H lo) (hk : kq + 60 ≤ 603072) (hn : nq + 4000 ≤ 7211113) (hx : s.heap.size ≤ x) (hzl : x + 341 ≤ H.size) {v : Nat} {N : Nat} {f : Int → Int} {nn : Int} {v2 : Nat} {N2 : Nat} {f2 : Int → Int} {n2 : Int} {co : Nat → Int → Int} {bf : Nat → Int → Int} {cv : Nat → Int → Int} {hc : Nat → Nat → Int → Int} {nx : Int} {sz : Int} {hs : Int} {er : Int} {fa : Int} {ss : Int} {dk : Nat → Int → Int} {se : Nat → Int → Int} {po : Int} {si : Int} {pr : Nat → Int → Int} {ml : Int} {ml2 : Int} {mo : Nat → Int → Int} {lg : Nat → Int64} {dg : Nat → UInt64} (hW : LawW E x v N f nn v2 N2 f2 n2 co bf cv hc nx sz hs er fa ss dk se po si pr ml ml2 mo lg dg H) (hP : LawP x v N f nn v2 N2 f2 n2 co cv hc nx sz hs er fa ss po si pr mo) (i0 : 0 ≤ i) (i1 : i + 5 ≤ (Lx : Int)) {a1 : Int} (ha1 : (xs (i + 1).toNat).toInt = a1) (ga1 : Rg a1) {a2 : Int} (ha2 : (xs (i + 2).toNat).toInt = a2) (ga2 : Rg a2) (q0 : 0 ≤ a1 ∧ a1 < co 0 0) (q1 : 0 ≤ a2 ∧ a2 < co 0 1) (q2 : 0 < co 9 (a1 * 8 + a2)) (kk : ∀ (H1 : Heap) (lo1 : List Loc), MS E [] s H1 lo1 → LawI E x H1 → V p l e room_1 s m args below meth cd Q 9 H1 lo1 (kq + 60) (nq + 4000) 3555 [(5, .int (zI i)), (4, .ref (x + 340)), (3, .ref (x + 339)), (2, .ref (x + 334)), (1, .ref x), (0, .ref b)] []) : V p l e room_1 s m args below meth cd Q 9 H lo kq nq 1515 [(5, .int (zI i)), (4, .ref (x + 340)), (3, .ref (x + 339)), (2, .ref (x + 334)), (1, .ref x), (0, .ref b)] [] := by
  obtain ⟨h_cm, h_co, h_bf, h_sv, h_hi, h_hf, h_dk, h_se, h_pg, h_sb, h_sa, h_pr, h_ln, h_la, h_mo, h_out, h_outD⟩ := hW
  have hP0 := hP
  obtain ⟨⟨hD, hDv, hDh⟩, ⟨hRM, hch, hcs⟩, ⟨⟨n0, n1⟩, ⟨s0, s1⟩, hhs⟩, ⟨hm8, hnn, hAg, hNN, hnN, hf9⟩, ⟨T, hSB, hLT, hn38⟩, hPB, ⟨her, hfa, hss, ger, gfa, gss, gms⟩, ⟨gpo, gsi⟩, ⟨hv1, hv2, hvv⟩⟩ := hP
  have hO := hD.inv.ok
  have hI := hD.inv.ts
  have hSt := hD.inv.st
  have hS := hD.inv.sn
  have hR := hRM.1.2
  have hG := gp_inv hD
  have hb0 := hO.b0
  have hbw := hO.bw
  have hbf : ¬ Fr [] s.heap.size b := fun z => z.elim (fun q => q.elim) (fun q => by omega)
  refine v_aload_n X dL_law_1515 1516 rfl 4 rfl ?_
  refine v_aload_n X dL_law_1516 1517 rfl 5 rfl ?_
  refine v_iload X dL_law_1517 1519 rfl 0 rfl ?_
  refine v_iconst X dL_law_1519 1520 rfl ?_
  refine v_iadd X dL_law_1520 1521 rfl ?_
  refine v_scr X hM hX hbl hbf (by omega) (by omega) hLx ha1 dL_law_1521 1522 rfl ?_
  refine v_aload_n X dL_law_1522 1523 rfl 5 rfl ?_
  refine v_iload X dL_law_1523 1525 rfl 0 rfl ?_
  refine v_iconst X dL_law_1525 1526 rfl ?_
  refine v_iadd X dL_law_1526 1527 rfl ?_
  refine v_scr X hM hX hbl hbf (by omega) (by omega) hLx ha2 dL_law_1527 1528 rfl ?_
  refine v_aload_n X dL_law_1528 1529 rfl 2 rfl ?_
  refine v_mwS X hM (w_X9_isForProsecution l hl E x co hs er fa ss a1 a2 (x + 339) lg hO ga1 ga2 q0 q1 q2 (by omega) (by omega)) kwL_isForProsecution ksL_isForProsecution kl_L_257 (As := [.ref x, .int (zI a1), .int (zI a2), .ref (x + 339)]) rfl rfl (rm_lawW rfl (by omega) (by omega)) dL_law_1529 1532 rfl (k' := kq + 1) (n' := nq + 6) rfl rfl (fsI (fun q q1 q2 => (Or.inr (by omega)))) ⟨h_cm, h_co, h_out⟩ (fun rv H1 lo1 hM hF hpo => ?_)
  obtain ⟨rfl, hw_0⟩ := hpo
  have h_out : PR E (x + 339) [(x + 339, .inl (E 102 4, 1, .inr (.inl (fun _ => zL (bz (0 < co 8 (a1 * 8 + a2)))))))] H1 := hw_0
  replace hzl := Nat.le_trans hzl hF.1
  replace h_cm := h_cm.kept hF 1 rfl (fsd (by omega))
  replace h_co := h_co.kept hF 28 rfl (fsd (by omega))
  replace h_bf := h_bf.kept hF 28 rfl (fsd (by omega))
  replace h_sv := h_sv.kept hF 28 rfl (fsd (by omega))
  replace h_hi := h_hi.kept hF 2 rfl (fsd (by omega))
  replace h_hf := h_hf.kept hF (fsd (by omega))
  replace h_dk := h_dk.kept hF 3 rfl (fsd (by omega))
  replace h_se := h_se.kept hF 5 rfl (fsd (by omega))
  replace h_pg := h_pg.kept hF 1 rfl (fsd (by omega))
  replace h_sb := h_sb.kept hF 1 rfl (fsd (by omega))
  replace h_sa := h_sa.kept hF 1 rfl (fsd (by omega))
  replace h_pr := h_pr.kept hF 10 rfl (fsd (by omega))
  replace h_ln := h_ln.kept hF 1 rfl (fsd (by omega))
  replace h_la := h_la.kept hF 1 rfl (fsd (by omega))
  replace h_mo := h_mo.kept hF 5 rfl (fsd (by omega))
  replace h_outD := h_outD.kept hF 1 rfl (fsd (by omega))
  show V p l e room_1 s m args below meth cd Q 9 H1 lo1 (kq + 1) (nq + 6) 1532 [(5, .int (zI i)), (4, .ref (x + 340)), (3, .ref (x + 339)), (2, .ref (x + 334)), (1, .ref x), (0, .ref b)] [.int (zI 0)]
  refine v_istore X dL_law_1532 1534 rfl (by decide) (L' := [(6, .int (zI 0)), (5, .int (zI i)), (4, .ref (x + 340)), (3, .ref (x + 339)), (2, .ref (x + 334)), (1, .ref x), (0, .ref b)]) rfl ?_
  refine v_aload_n X dL_law_1534 1535 rfl 4 rfl ?_
  refine v_aload_n X dL_law_1535 1536 rfl 6 rfl ?_
  refine v_iload X dL_law_1536 1538 rfl 1 rfl ?_
  refine v_iconst X dL_law_1538 1539 rfl ?_
  refine v_iadd X dL_law_1539 1540 rfl ?_
  refine v_scr X hM hX hbl hbf (by omega) (by omega) hLx ha1 dL_law_1540 1541 rfl ?_
  refine v_aload_n X dL_law_1541 1542 rfl 6 rfl ?_
  refine v_iload X dL_law_1542 1544 rfl 1 rfl ?_
  refine v_iconst X dL_law_1544 1545 rfl ?_
  refine v_iadd X dL_law_1545 1546 rfl ?_
  refine v_scr X hM hX hbl hbf (by omega) (by omega) hLx ha2 dL_law_1546 1547 rfl ?_
  refine v_muV X hM (h_mo.1) (c_X10_isForProsecution l E (x + 334) mo co a1 a2 hO hR hI ga1 ga2 q0 q1 q2) kvX10_isForProsecution kiX10_isForProsecution kl_L_259 (q0 := 0) rfl rfl (As := [.int (zI a1), .int (zI a2)]) rfl rfl (rm_law rfl (by omega) (by omega)) dL_law_1547 1550 rfl (k' := kq + 1) (n' := nq + 6) rfl rfl (fsI (fun q q1 q2 => (Or.inr (by omega)))) h_mo (fun rv H2 lo2 hM hF hpo => ?_)
  obtain ⟨rfl, hw_0⟩ := hpo
  have h_mo : PR E (x + 334) (modelW E (x + 334) (updC mo 0 (updZ (mo 0) 0 0))) H2 := hw_0
  replace hzl := Nat.le_trans hzl hF.1
  replace h_cm := h_cm.kept hF 1 rfl (fsd (by omega))
  replace h_co := h_co.kept hF 28 rfl (fsd (by omega))
  replace h_bf := h_bf.kept hF 28 rfl (fsd (by omega))
  replace h_sv := h_sv.kept hF 28 rfl (fsd (by omega))
  replace h_hi := h_hi.kept hF 2 rfl (fsd (by omega))
  replace h_hf := h_hf.kept hF (fsd (by omega))
  replace h_dk := h_dk.kept hF 3 rfl (fsd (by omega))
  replace h_se := h_se.kept hF 5 rfl (fsd (by omega))
  replace h_pg := h_pg.kept hF 1 rfl (fsd (by omega))
  replace h_sb := h_sb.kept hF 1 rfl (fsd (by omega))
  replace h_sa := h_sa.kept hF 1 rfl (fsd (by omega))
  replace h_pr := h_pr.kept hF 10 rfl (fsd (by omega))
  replace h_ln := h_ln.kept hF 1 rfl (fsd (by omega))
  replace h_la := h_la.kept hF 1 rfl (fsd (by omega))
  replace h_out := h_out.kept hF 1 rfl (fsd (by omega))
  replace h_outD := h_outD.kept hF 1 rfl (fsd (by omega))
  show V p l e room_1 s m args below meth cd Q 9 H2 lo2 (kq + 1) (nq + 6) 1550 [(6, .int (zI 0)), (5, .int (zI i)), (4, .ref (x + 340)), (3, .ref (x + 339)), (2, .ref (x + 334)), (1, .ref x), (0, .ref b)] [.int (zI (bz (0 < co 8 (a1 * 8 + a2))))]
  refine v_istore X dL_law_1550 1552 rfl (by decide) (L' := [(7, .int (zI (bz (0 < co 8 (a1 * 8 + a2))))), (6, .int (zI 0)), (5, .int (zI i)), (4, .ref (x + 340)), (3, .ref (x + 339)), (2, .ref (x + 334)), (1, .ref x), (0, .ref b)]) rfl ?_
  refine v_aload_n X dL_law_1552 1553 rfl 5 rfl ?_
  refine v_rdV X hM.C h_mo.1 (c_X10_thrown l E (x + 334) (updC mo 0 (updZ (mo 0) 0 0))) kvX10_thrown kiX10_thrown kl_L_196 rfl rfl (As := []) rfl rfl (rm_law0 rfl (by omega) (by omega)) dL_law_1553 1556 rfl ?_
  show V p l e room_1 s m args below meth cd Q 9 H2 lo2 (kq + 1) (nq + 6) 1556 [(7, .int (zI (bz (0 < co 8 (a1 * 8 + a2))))), (6, .int (zI 0)), (5, .int (zI i)), (4, .ref (x + 340)), (3, .ref (x + 339)), (2, .ref (x + 334)), (1, .ref x), (0, .ref b)] [.int (zI 0)]
  refine v_iload X dL_law_1556 1558 rfl 1 rfl ?_
  refine v_icmp_eq X (by omega) (by omega) dL_law_1558 1561 1563 rfl (by decide) (fun c_3 => ?_) (fun c_3 => ?_)
  · skip
    refine v_iload X dL_law_1563 1565 rfl 1 rfl ?_
    refine v_if_ne X (by omega) dL_law_1565 1568 1587 rfl (by decide) (fun c_4 => ?_) (fun c_4 => ?_)
    · skip
      exfalso; omega
    · skip
      refine v_aload_n X dL_law_1568 1569 rfl 4 rfl ?_
      refine v_iconst X dL_law_1569 1570 rfl ?_
      refine v_lald X hM.C h_out.1 0 rfl dL_law_1570 1571 rfl ?_
      show V p l e room_1 s m args below meth cd Q 9 H2 lo2 (kq + 1) (nq + 6) 1571 [(7, .int (zI (bz (0 < co 8 (a1 * 8 + a2))))), (6, .int (zI 0)), (5, .int (zI i)), (4, .ref (x + 340)), (3, .ref (x + 339)), (2, .ref (x + 334)), (1, .ref x), (0, .ref b)] [.long (zL (bz (0 < co 8 (a1 * 8 + a2))))]
      refine v_iload X dL_law_1571 1573 rfl 0 rfl ?_
      refine v_bif_eq X dL_law_1573 1576 1580 rfl (by decide) (fun c_5 => ?_) (fun c_5 => ?_)
      · skip
        refine v_lconst 0 X dL_law_1580 rfl 1581 rfl ?_
        refine V_S (st' := [.long (zL 0), .long (zL 0)]) (by rw [show (bz (0 < co 8 (a1 * 8 + a2)) : Int) = 0 from bz_f (by first | assumption | omega)]) ?_
        refine v_lcmp0 X dL_law_1581 1582 rfl ?_
        refine v_if_eq X (by omega) dL_law_1582 1585 1587 rfl (by decide) (fun c_6 => ?_) (fun c_6 => ?_)
        · skip
          refine v_goto X dL_law_1587 3555 (by decide) ?_
          refine v_widen (k' := kq + 60) (n' := nq + 4000) (by omega) (by omega) ?_
          exact V_pick [2, 3, 4, 5, 6, 7] rfl (kk _ _ hM ⟨hzl, _, _, _, _, _, _, _, _, _, _, _, _, _, _, _, _, _, _, _, _, _, _, _, _, _, _, _, _, ⟨h_cm, h_co, h_bf, h_sv, h_hi, h_hf, h_dk, h_se, h_pg, h_sb, h_sa, h_pr, h_ln, h_la, h_mo, h_out, h_outD⟩, hP0.mo_0⟩)
        · skip
          exfalso; omega
      · skip
        refine v_lconst 1 X dL_law_1576 rfl 1577 rfl ?_
        refine v_goto X dL_law_1577 1581 (by decide) ?_
        refine V_S (st' := [.long (zL 1), .long (zL 1)]) (by rw [show (bz (0 < co 8 (a1 * 8 + a2)) : Int) = 1 from bz_t (by first | assumption | omega)]) ?_
        refine v_lcmp0 X dL_law_1581 1582 rfl ?_
        refine v_if_eq X (by omega) dL_law_1582 1585 1587 rfl (by decide) (fun c_7 => ?_) (fun c_7 => ?_)
        · skip
          refine v_goto X dL_law_1587 3555 (by decide) ?_
          refine v_widen (k' := kq + 60) (n' := nq + 4000) (by omega) (by omega) ?_
          exact V_pick [2, 3, 4, 5, 6, 7] rfl (kk _ _ hM ⟨hzl, _, _, _, _, _, _, _, _, _, _, _, _, _, _, _, _, _, _, _, _, _, _, _, _, _, _, _, _, ⟨h_cm, h_co, h_bf, h_sv, h_hi, h_hf, h_dk, h_se, h_pg, h_sb, h_sa, h_pr, h_ln, h_la, h_mo, h_out, h_outD⟩, hP0.mo_0⟩)
        · skip
          exfalso; omega
  · skip
    exfalso; omega
set_option maxHeartbeats 4000000 in
set_option maxRecDepth 20000 in
theorem lo_isForProsecution_1 (hl : l.stackTraces = false) (X : CF p m cd code 9 s args RL) (hX : va_X b Lx xs s s.heap) (hbl : b < s.heap.size) (hLx : Lx ≤ 2560) (hM : MS E [] s H lo) (hk : kq + 60 ≤ 603072) (hn : nq + 4000 ≤ 7211113) (hx : s.heap.size ≤ x) (hzl : x + 341 ≤ H.size) {v : Nat} {N : Nat} {f : Int → Int} {nn : Int} {v2 : Nat} {N2 : Nat} {f2 : Int → Int} {n2 : Int} {co : Nat → Int → Int} {bf : Nat → Int → Int} {cv : Nat → Int → Int} {hc : Nat → Nat → Int → Int} {nx : Int} {sz : Int} {hs : Int} {er : Int} {fa : Int} {ss : Int} {dk : Nat → Int → Int} {se : Nat → Int → Int} {po : Int} {si : Int} {pr : Nat → Int → Int} {ml : Int} {ml2 : Int} {mo : Nat → Int → Int} {lg : Nat → Int64} {dg : Nat → UInt64} (hW : LawW E x v N f nn v2 N2 f2 n2 co bf cv hc nx sz hs er fa ss dk se po si pr ml ml2 mo lg dg H) (hP : LawP x v N f nn v2 N2 f2 n2 co cv hc nx sz hs er fa ss po si pr mo) (i0 : 0 ≤ i) (i1 : i + 5 ≤ (Lx : Int)) {a1 : Int} (ha1 : (xs (i + 1).toNat).toInt = a1) (ga1 : Rg a1) {a2 : Int} (ha2 : (xs (i + 2).toNat).toInt = a2) (ga2 : Rg a2) (q0 : ¬ (0 ≤ a1 ∧ a1 < co 0 0)) (kk : ∀ (H1 : Heap) (lo1 : List Loc), MS E [] s H1 lo1 → LawI E x H1 → V p l e room_1 s m args below meth cd Q 9 H1 lo1 (kq + 60) (nq + 4000) 3555 [(5, .int (zI i)), (4, .ref (x + 340)), (3, .ref (x + 339)), (2, .ref (x + 334)), (1, .ref x), (0, .ref b)] []) : V p l e room_1 s m args below meth cd Q 9 H lo kq nq 1515 [(5, .int (zI i)), (4, .ref (x + 340)), (3, .ref (x + 339)), (2, .ref (x + 334)), (1, .ref x), (0, .ref b)] [] := by
  obtain ⟨h_cm, h_co, h_bf, h_sv, h_hi, h_hf, h_dk, h_se, h_pg, h_sb, h_sa, h_pr, h_ln, h_la, h_mo, h_out, h_outD⟩ := hW
  have hP0 := hP
  obtain ⟨⟨hD, hDv, hDh⟩, ⟨hRM, hch, hcs⟩, ⟨⟨n0, n1⟩, ⟨s0, s1⟩, hhs⟩, ⟨hm8, hnn, hAg, hNN, hnN, hf9⟩, ⟨T, hSB, hLT, hn38⟩, hPB, ⟨her, hfa, hss, ger, gfa, gss, gms⟩, ⟨gpo, gsi⟩, ⟨hv1, hv2, hvv⟩⟩ := hP
  have hO := hD.inv.ok
  have hI := hD.inv.ts
  have hSt := hD.inv.st
  have hS := hD.inv.sn
  have hR := hRM.1.2
  have hG := gp_inv hD
  have hb0 := hO.b0
  have hbw := hO.bw
  have hbf : ¬ Fr [] s.heap.size b := fun z => z.elim (fun q => q.elim) (fun q => by omega)
  refine v_aload_n X dL_law_1515 1516 rfl 4 rfl ?_
  refine v_aload_n X dL_law_1516 1517 rfl 5 rfl ?_
  refine v_iload X dL_law_1517 1519 rfl 0 rfl ?_
  refine v_iconst X dL_law_1519 1520 rfl ?_
  refine v_iadd X dL_law_1520 1521 rfl ?_
  refine v_scr X hM hX hbl hbf (by omega) (by omega) hLx ha1 dL_law_1521 1522 rfl ?_
  refine v_aload_n X dL_law_1522 1523 rfl 5 rfl ?_
  refine v_iload X dL_law_1523 1525 rfl 0 rfl ?_
  refine v_iconst X dL_law_1525 1526 rfl ?_
  refine v_iadd X dL_law_1526 1527 rfl ?_
  refine v_scr X hM hX hbl hbf (by omega) (by omega) hLx ha2 dL_law_1527 1528 rfl ?_
  refine v_aload_n X dL_law_1528 1529 rfl 2 rfl ?_
  refine v_mwS X hM (w_X9_isForProsecution_0_t l hl E x co hs er fa ss a1 a2 (x + 339) lg hO ga1 ga2 q0) kwL_isForProsecution ksL_isForProsecution kl_L_257 (As := [.ref x, .int (zI a1), .int (zI a2), .ref (x + 339)]) rfl rfl (rm_lawW rfl (by omega) (by omega)) dL_law_1529 1532 rfl (k' := kq + 1) (n' := nq + 6) rfl rfl (fun q hq => hq.elim) ⟨h_cm, h_co, h_out⟩ (fun rv H1 lo1 hM hF hpo => ?_)
  subst hpo
  replace hzl := Nat.le_trans hzl hF.1
  replace h_cm := h_cm.kept hF 1 rfl (fun q _ _ h => h.elim)
  replace h_co := h_co.kept hF 28 rfl (fun q _ _ h => h.elim)
  replace h_bf := h_bf.kept hF 28 rfl (fun q _ _ h => h.elim)
  replace h_sv := h_sv.kept hF 28 rfl (fun q _ _ h => h.elim)
  replace h_hi := h_hi.kept hF 2 rfl (fun q _ _ h => h.elim)
  replace h_hf := h_hf.kept hF (fun q _ _ h => h.elim)
  replace h_dk := h_dk.kept hF 3 rfl (fun q _ _ h => h.elim)
  replace h_se := h_se.kept hF 5 rfl (fun q _ _ h => h.elim)
  replace h_pg := h_pg.kept hF 1 rfl (fun q _ _ h => h.elim)
  replace h_sb := h_sb.kept hF 1 rfl (fun q _ _ h => h.elim)
  replace h_sa := h_sa.kept hF 1 rfl (fun q _ _ h => h.elim)
  replace h_pr := h_pr.kept hF 10 rfl (fun q _ _ h => h.elim)
  replace h_ln := h_ln.kept hF 1 rfl (fun q _ _ h => h.elim)
  replace h_la := h_la.kept hF 1 rfl (fun q _ _ h => h.elim)
  replace h_mo := h_mo.kept hF 5 rfl (fun q _ _ h => h.elim)
  replace h_out := h_out.kept hF 1 rfl (fun q _ _ h => h.elim)
  replace h_outD := h_outD.kept hF 1 rfl (fun q _ _ h => h.elim)
  show V p l e room_1 s m args below meth cd Q 9 H1 lo1 (kq + 1) (nq + 6) 1532 [(5, .int (zI i)), (4, .ref (x + 340)), (3, .ref (x + 339)), (2, .ref (x + 334)), (1, .ref x), (0, .ref b)] [.int (zI 1)]
  refine v_istore X dL_law_1532 1534 rfl (by decide) (L' := [(6, .int (zI 1)), (5, .int (zI i)), (4, .ref (x + 340)), (3, .ref (x + 339)), (2, .ref (x + 334)), (1, .ref x), (0, .ref b)]) rfl ?_
  refine v_aload_n X dL_law_1534 1535 rfl 4 rfl ?_
  refine v_aload_n X dL_law_1535 1536 rfl 6 rfl ?_
  refine v_iload X dL_law_1536 1538 rfl 1 rfl ?_
  refine v_iconst X dL_law_1538 1539 rfl ?_
  refine v_iadd X dL_law_1539 1540 rfl ?_
  refine v_scr X hM hX hbl hbf (by omega) (by omega) hLx ha1 dL_law_1540 1541 rfl ?_
  refine v_aload_n X dL_law_1541 1542 rfl 6 rfl ?_
  refine v_iload X dL_law_1542 1544 rfl 1 rfl ?_
  refine v_iconst X dL_law_1544 1545 rfl ?_
  refine v_iadd X dL_law_1545 1546 rfl ?_
  refine v_scr X hM hX hbl hbf (by omega) (by omega) hLx ha2 dL_law_1546 1547 rfl ?_
  refine v_muV X hM (h_mo.1) (c_X10_isForProsecution_0 l E (x + 334) mo co a1 a2 hO hR hI ga1 ga2 q0) kvX10_isForProsecution kiX10_isForProsecution kl_L_259 (q0 := 0) rfl rfl (As := [.int (zI a1), .int (zI a2)]) rfl rfl (rm_law rfl (by omega) (by omega)) dL_law_1547 1550 rfl (k' := kq + 1) (n' := nq + 6) rfl rfl (fsI (fun q q1 q2 => (Or.inr (by omega)))) h_mo (fun rv H2 lo2 hM hF hpo => ?_)
  obtain ⟨rfl, hw_0⟩ := hpo
  have h_mo : PR E (x + 334) (modelW E (x + 334) (updC mo 0 (updZ (mo 0) 0 1))) H2 := hw_0
  replace hzl := Nat.le_trans hzl hF.1
  replace h_cm := h_cm.kept hF 1 rfl (fsd (by omega))
  replace h_co := h_co.kept hF 28 rfl (fsd (by omega))
  replace h_bf := h_bf.kept hF 28 rfl (fsd (by omega))
  replace h_sv := h_sv.kept hF 28 rfl (fsd (by omega))
  replace h_hi := h_hi.kept hF 2 rfl (fsd (by omega))
  replace h_hf := h_hf.kept hF (fsd (by omega))
  replace h_dk := h_dk.kept hF 3 rfl (fsd (by omega))
  replace h_se := h_se.kept hF 5 rfl (fsd (by omega))
  replace h_pg := h_pg.kept hF 1 rfl (fsd (by omega))
  replace h_sb := h_sb.kept hF 1 rfl (fsd (by omega))
  replace h_sa := h_sa.kept hF 1 rfl (fsd (by omega))
  replace h_pr := h_pr.kept hF 10 rfl (fsd (by omega))
  replace h_ln := h_ln.kept hF 1 rfl (fsd (by omega))
  replace h_la := h_la.kept hF 1 rfl (fsd (by omega))
  replace h_out := h_out.kept hF 1 rfl (fsd (by omega))
  replace h_outD := h_outD.kept hF 1 rfl (fsd (by omega))
  show V p l e room_1 s m args below meth cd Q 9 H2 lo2 (kq + 1) (nq + 6) 1550 [(6, .int (zI 1)), (5, .int (zI i)), (4, .ref (x + 340)), (3, .ref (x + 339)), (2, .ref (x + 334)), (1, .ref x), (0, .ref b)] [.int (zI 0)]
  refine v_istore X dL_law_1550 1552 rfl (by decide) (L' := [(7, .int (zI 0)), (6, .int (zI 1)), (5, .int (zI i)), (4, .ref (x + 340)), (3, .ref (x + 339)), (2, .ref (x + 334)), (1, .ref x), (0, .ref b)]) rfl ?_
  refine v_aload_n X dL_law_1552 1553 rfl 5 rfl ?_
  refine v_rdV X hM.C h_mo.1 (c_X10_thrown l E (x + 334) (updC mo 0 (updZ (mo 0) 0 1))) kvX10_thrown kiX10_thrown kl_L_196 rfl rfl (As := []) rfl rfl (rm_law0 rfl (by omega) (by omega)) dL_law_1553 1556 rfl ?_
  show V p l e room_1 s m args below meth cd Q 9 H2 lo2 (kq + 1) (nq + 6) 1556 [(7, .int (zI 0)), (6, .int (zI 1)), (5, .int (zI i)), (4, .ref (x + 340)), (3, .ref (x + 339)), (2, .ref (x + 334)), (1, .ref x), (0, .ref b)] [.int (zI 1)]
  refine v_iload X dL_law_1556 1558 rfl 1 rfl ?_
  refine v_icmp_eq X (by omega) (by omega) dL_law_1558 1561 1563 rfl (by decide) (fun c_3 => ?_) (fun c_3 => ?_)
  · skip
    refine v_iload X dL_law_1563 1565 rfl 1 rfl ?_
    refine v_if_ne X (by omega) dL_law_1565 1568 1587 rfl (by decide) (fun c_4 => ?_) (fun c_4 => ?_)
    · skip
      refine v_goto X dL_law_1587 3555 (by decide) ?_
      refine v_widen (k' := kq + 60) (n' := nq + 4000) (by omega) (by omega) ?_
      exact V_pick [2, 3, 4, 5, 6, 7] rfl (kk _ _ hM ⟨hzl, _, _, _, _, _, _, _, _, _, _, _, _, _, _, _, _, _, _, _, _, _, _, _, _, _, _, _, _, ⟨h_cm, h_co, h_bf, h_sv, h_hi, h_hf, h_dk, h_se, h_pg, h_sb, h_sa, h_pr, h_ln, h_la, h_mo, h_out, h_outD⟩, hP0.mo_0⟩)
    · skip
      exfalso; omega
  · skip
    exfalso; omega
set_option maxHeartbeats 4000000 in
set_option maxRecDepth 20000 in
theorem lo_isForProsecution_2 (hl : l.stackTraces = false) (X : CF p m cd code 9 s args RL) (hX : va_X b Lx xs s s.heap) (hbl : b < s.heap.size) (hLx : Lx ≤ 2560) (hM : MS E [] s H lo) (hk : kq + 60 ≤ 603072) (hn : nq + 4000 ≤ 7211113) (hx : s.heap.size ≤ x) (hzl : x + 341 ≤ H.size) {v : Nat} {N : Nat} {f : Int → Int} {nn : Int} {v2 : Nat} {N2 : Nat} {f2 : Int → Int} {n2 : Int} {co : Nat → Int → Int} {bf : Nat → Int → Int} {cv : Nat → Int → Int} {hc : Nat → Nat → Int → Int} {nx : Int} {sz : Int} {hs : Int} {er : Int} {fa : Int} {ss : Int} {dk : Nat → Int → Int} {se : Nat → Int → Int} {po : Int} {si : Int} {pr : Nat → Int → Int} {ml : Int} {ml2 : Int} {mo : Nat → Int → Int} {lg : Nat → Int64} {dg : Nat → UInt64} (hW : LawW E x v N f nn v2 N2 f2 n2 co bf cv hc nx sz hs er fa ss dk se po si pr ml ml2 mo lg dg H) (hP : LawP x v N f nn v2 N2 f2 n2 co cv hc nx sz hs er fa ss po si pr mo) (i0 : 0 ≤ i) (i1 : i + 5 ≤ (Lx : Int)) {a1 : Int} (ha1 : (xs (i + 1).toNat).toInt = a1) (ga1 : Rg a1) {a2 : Int} (ha2 : (xs (i + 2).toNat).toInt = a2) (ga2 : Rg a2) (q0 : 0 ≤ a1 ∧ a1 < co 0 0) (q1 : ¬ (0 ≤ a2 ∧ a2 < co 0 1)) (kk : ∀ (H1 : Heap) (lo1 : List Loc), MS E [] s H1 lo1 → LawI E x H1 → V p l e room_1 s m args below meth cd Q 9 H1 lo1 (kq + 60) (nq + 4000) 3555 [(5, .int (zI i)), (4, .ref (x + 340)), (3, .ref (x + 339)), (2, .ref (x + 334)), (1, .ref x), (0, .ref b)] []) : V p l e room_1 s m args below meth cd Q 9 H lo kq nq 1515 [(5, .int (zI i)), (4, .ref (x + 340)), (3, .ref (x + 339)), (2, .ref (x + 334)), (1, .ref x), (0, .ref b)] [] := by
  obtain ⟨h_cm, h_co, h_bf, h_sv, h_hi, h_hf, h_dk, h_se, h_pg, h_sb, h_sa, h_pr, h_ln, h_la, h_mo, h_out, h_outD⟩ := hW
  have hP0 := hP
  obtain ⟨⟨hD, hDv, hDh⟩, ⟨hRM, hch, hcs⟩, ⟨⟨n0, n1⟩, ⟨s0, s1⟩, hhs⟩, ⟨hm8, hnn, hAg, hNN, hnN, hf9⟩, ⟨T, hSB, hLT, hn38⟩, hPB, ⟨her, hfa, hss, ger, gfa, gss, gms⟩, ⟨gpo, gsi⟩, ⟨hv1, hv2, hvv⟩⟩ := hP
  have hO := hD.inv.ok
  have hI := hD.inv.ts
  have hSt := hD.inv.st
  have hS := hD.inv.sn
  have hR := hRM.1.2
  have hG := gp_inv hD
  have hb0 := hO.b0
  have hbw := hO.bw
  have hbf : ¬ Fr [] s.heap.size b := fun z => z.elim (fun q => q.elim) (fun q => by omega)
  refine v_aload_n X dL_law_1515 1516 rfl 4 rfl ?_
  refine v_aload_n X dL_law_1516 1517 rfl 5 rfl ?_
  refine v_iload X dL_law_1517 1519 rfl 0 rfl ?_
  refine v_iconst X dL_law_1519 1520 rfl ?_
  refine v_iadd X dL_law_1520 1521 rfl ?_
  refine v_scr X hM hX hbl hbf (by omega) (by omega) hLx ha1 dL_law_1521 1522 rfl ?_
  refine v_aload_n X dL_law_1522 1523 rfl 5 rfl ?_
  refine v_iload X dL_law_1523 1525 rfl 0 rfl ?_
  refine v_iconst X dL_law_1525 1526 rfl ?_
  refine v_iadd X dL_law_1526 1527 rfl ?_
  refine v_scr X hM hX hbl hbf (by omega) (by omega) hLx ha2 dL_law_1527 1528 rfl ?_
  refine v_aload_n X dL_law_1528 1529 rfl 2 rfl ?_
  refine v_mwS X hM (w_X9_isForProsecution_1_t l hl E x co hs er fa ss a1 a2 (x + 339) lg hO ga1 ga2 q0 q1) kwL_isForProsecution ksL_isForProsecution kl_L_257 (As := [.ref x, .int (zI a1), .int (zI a2), .ref (x + 339)]) rfl rfl (rm_lawW rfl (by omega) (by omega)) dL_law_1529 1532 rfl (k' := kq + 1) (n' := nq + 6) rfl rfl (fun q hq => hq.elim) ⟨h_cm, h_co, h_out⟩ (fun rv H1 lo1 hM hF hpo => ?_)
  subst hpo
  replace hzl := Nat.le_trans hzl hF.1
  replace h_cm := h_cm.kept hF 1 rfl (fun q _ _ h => h.elim)
  replace h_co := h_co.kept hF 28 rfl (fun q _ _ h => h.elim)
  replace h_bf := h_bf.kept hF 28 rfl (fun q _ _ h => h.elim)
  replace h_sv := h_sv.kept hF 28 rfl (fun q _ _ h => h.elim)
  replace h_hi := h_hi.kept hF 2 rfl (fun q _ _ h => h.elim)
  replace h_hf := h_hf.kept hF (fun q _ _ h => h.elim)
  replace h_dk := h_dk.kept hF 3 rfl (fun q _ _ h => h.elim)
  replace h_se := h_se.kept hF 5 rfl (fun q _ _ h => h.elim)
  replace h_pg := h_pg.kept hF 1 rfl (fun q _ _ h => h.elim)
  replace h_sb := h_sb.kept hF 1 rfl (fun q _ _ h => h.elim)
  replace h_sa := h_sa.kept hF 1 rfl (fun q _ _ h => h.elim)
  replace h_pr := h_pr.kept hF 10 rfl (fun q _ _ h => h.elim)
  replace h_ln := h_ln.kept hF 1 rfl (fun q _ _ h => h.elim)
  replace h_la := h_la.kept hF 1 rfl (fun q _ _ h => h.elim)
  replace h_mo := h_mo.kept hF 5 rfl (fun q _ _ h => h.elim)
  replace h_out := h_out.kept hF 1 rfl (fun q _ _ h => h.elim)
  replace h_outD := h_outD.kept hF 1 rfl (fun q _ _ h => h.elim)
  show V p l e room_1 s m args below meth cd Q 9 H1 lo1 (kq + 1) (nq + 6) 1532 [(5, .int (zI i)), (4, .ref (x + 340)), (3, .ref (x + 339)), (2, .ref (x + 334)), (1, .ref x), (0, .ref b)] [.int (zI 1)]
  refine v_istore X dL_law_1532 1534 rfl (by decide) (L' := [(6, .int (zI 1)), (5, .int (zI i)), (4, .ref (x + 340)), (3, .ref (x + 339)), (2, .ref (x + 334)), (1, .ref x), (0, .ref b)]) rfl ?_
  refine v_aload_n X dL_law_1534 1535 rfl 4 rfl ?_
  refine v_aload_n X dL_law_1535 1536 rfl 6 rfl ?_
  refine v_iload X dL_law_1536 1538 rfl 1 rfl ?_
  refine v_iconst X dL_law_1538 1539 rfl ?_
  refine v_iadd X dL_law_1539 1540 rfl ?_
  refine v_scr X hM hX hbl hbf (by omega) (by omega) hLx ha1 dL_law_1540 1541 rfl ?_
  refine v_aload_n X dL_law_1541 1542 rfl 6 rfl ?_
  refine v_iload X dL_law_1542 1544 rfl 1 rfl ?_
  refine v_iconst X dL_law_1544 1545 rfl ?_
  refine v_iadd X dL_law_1545 1546 rfl ?_
  refine v_scr X hM hX hbl hbf (by omega) (by omega) hLx ha2 dL_law_1546 1547 rfl ?_
  refine v_muV X hM (h_mo.1) (c_X10_isForProsecution_1 l E (x + 334) mo co a1 a2 hO hR hI ga1 ga2 q0 q1) kvX10_isForProsecution kiX10_isForProsecution kl_L_259 (q0 := 0) rfl rfl (As := [.int (zI a1), .int (zI a2)]) rfl rfl (rm_law rfl (by omega) (by omega)) dL_law_1547 1550 rfl (k' := kq + 1) (n' := nq + 6) rfl rfl (fsI (fun q q1 q2 => (Or.inr (by omega)))) h_mo (fun rv H2 lo2 hM hF hpo => ?_)
  obtain ⟨rfl, hw_0⟩ := hpo
  have h_mo : PR E (x + 334) (modelW E (x + 334) (updC mo 0 (updZ (mo 0) 0 1))) H2 := hw_0
  replace hzl := Nat.le_trans hzl hF.1
  replace h_cm := h_cm.kept hF 1 rfl (fsd (by omega))
  replace h_co := h_co.kept hF 28 rfl (fsd (by omega))
  replace h_bf := h_bf.kept hF 28 rfl (fsd (by omega))
  replace h_sv := h_sv.kept hF 28 rfl (fsd (by omega))
  replace h_hi := h_hi.kept hF 2 rfl (fsd (by omega))
  replace h_hf := h_hf.kept hF (fsd (by omega))
  replace h_dk := h_dk.kept hF 3 rfl (fsd (by omega))
  replace h_se := h_se.kept hF 5 rfl (fsd (by omega))
  replace h_pg := h_pg.kept hF 1 rfl (fsd (by omega))
  replace h_sb := h_sb.kept hF 1 rfl (fsd (by omega))
  replace h_sa := h_sa.kept hF 1 rfl (fsd (by omega))
  replace h_pr := h_pr.kept hF 10 rfl (fsd (by omega))
  replace h_ln := h_ln.kept hF 1 rfl (fsd (by omega))
  replace h_la := h_la.kept hF 1 rfl (fsd (by omega))
  replace h_out := h_out.kept hF 1 rfl (fsd (by omega))
  replace h_outD := h_outD.kept hF 1 rfl (fsd (by omega))
  show V p l e room_1 s m args below meth cd Q 9 H2 lo2 (kq + 1) (nq + 6) 1550 [(6, .int (zI 1)), (5, .int (zI i)), (4, .ref (x + 340)), (3, .ref (x + 339)), (2, .ref (x + 334)), (1, .ref x), (0, .ref b)] [.int (zI 0)]
  refine v_istore X dL_law_1550 1552 rfl (by decide) (L' := [(7, .int (zI 0)), (6, .int (zI 1)), (5, .int (zI i)), (4, .ref (x + 340)), (3, .ref (x + 339)), (2, .ref (x + 334)), (1, .ref x), (0, .ref b)]) rfl ?_
  refine v_aload_n X dL_law_1552 1553 rfl 5 rfl ?_
  refine v_rdV X hM.C h_mo.1 (c_X10_thrown l E (x + 334) (updC mo 0 (updZ (mo 0) 0 1))) kvX10_thrown kiX10_thrown kl_L_196 rfl rfl (As := []) rfl rfl (rm_law0 rfl (by omega) (by omega)) dL_law_1553 1556 rfl ?_
  show V p l e room_1 s m args below meth cd Q 9 H2 lo2 (kq + 1) (nq + 6) 1556 [(7, .int (zI 0)), (6, .int (zI 1)), (5, .int (zI i)), (4, .ref (x + 340)), (3, .ref (x + 339)), (2, .ref (x + 334)), (1, .ref x), (0, .ref b)] [.int (zI 1)]
  refine v_iload X dL_law_1556 1558 rfl 1 rfl ?_
  refine v_icmp_eq X (by omega) (by omega) dL_law_1558 1561 1563 rfl (by decide) (fun c_3 => ?_) (fun c_3 => ?_)
  · skip
    refine v_iload X dL_law_1563 1565 rfl 1 rfl ?_
    refine v_if_ne X (by omega) dL_law_1565 1568 1587 rfl (by decide) (fun c_4 => ?_) (fun c_4 => ?_)
    · skip
      refine v_goto X dL_law_1587 3555 (by decide) ?_
      refine v_widen (k' := kq + 60) (n' := nq + 4000) (by omega) (by omega) ?_
      exact V_pick [2, 3, 4, 5, 6, 7] rfl (kk _ _ hM ⟨hzl, _, _, _, _, _, _, _, _, _, _, _, _, _, _, _, _, _, _, _, _, _, _, _, _, _, _, _, _, ⟨h_cm, h_co, h_bf, h_sv, h_hi, h_hf, h_dk, h_se, h_pg, h_sb, h_sa, h_pr, h_ln, h_la, h_mo, h_out, h_outD⟩, hP0.mo_0⟩)
    · skip
      exfalso; omega
  · skip
    exfalso; omega
set_option maxHeartbeats 4000000 in
set_option maxRecDepth 20000 in
theorem lo_isForProsecution_3 (hl : l.stackTraces = false) (X : CF p m cd code 9 s args RL) (hX : va_X b Lx xs s s.heap) (hbl : b < s.heap.size) (hLx : Lx ≤ 2560) (hM : MS E [] s H lo) (hk : kq + 60 ≤ 603072) (hn : nq + 4000 ≤ 7211113) (hx : s.heap.size ≤ x) (hzl : x + 341 ≤ H.size) {v : Nat} {N : Nat} {f : Int → Int} {nn : Int} {v2 : Nat} {N2 : Nat} {f2 : Int → Int} {n2 : Int} {co : Nat → Int → Int} {bf : Nat → Int → Int} {cv : Nat → Int → Int} {hc : Nat → Nat → Int → Int} {nx : Int} {sz : Int} {hs : Int} {er : Int} {fa : Int} {ss : Int} {dk : Nat → Int → Int} {se : Nat → Int → Int} {po : Int} {si : Int} {pr : Nat → Int → Int} {ml : Int} {ml2 : Int} {mo : Nat → Int → Int} {lg : Nat → Int64} {dg : Nat → UInt64} (hW : LawW E x v N f nn v2 N2 f2 n2 co bf cv hc nx sz hs er fa ss dk se po si pr ml ml2 mo lg dg H) (hP : LawP x v N f nn v2 N2 f2 n2 co cv hc nx sz hs er fa ss po si pr mo) (i0 : 0 ≤ i) (i1 : i + 5 ≤ (Lx : Int)) {a1 : Int} (ha1 : (xs (i + 1).toNat).toInt = a1) (ga1 : Rg a1) {a2 : Int} (ha2 : (xs (i + 2).toNat).toInt = a2) (ga2 : Rg a2) (q0 : 0 ≤ a1 ∧ a1 < co 0 0) (q1 : 0 ≤ a2 ∧ a2 < co 0 1) (q2 : ¬ (0 < co 9 (a1 * 8 + a2))) (kk : ∀ (H1 : Heap) (lo1 : List Loc), MS E [] s H1 lo1 → LawI E x H1 → V p l e room_1 s m args below meth cd Q 9 H1 lo1 (kq + 60) (nq + 4000) 3555 [(5, .int (zI i)), (4, .ref (x + 340)), (3, .ref (x + 339)), (2, .ref (x + 334)), (1, .ref x), (0, .ref b)] []) : V p l e room_1 s m args below meth cd Q 9 H lo kq nq 1515 [(5, .int (zI i)), (4, .ref (x + 340)), (3, .ref (x + 339)), (2, .ref (x + 334)), (1, .ref x), (0, .ref b)] [] := by
  obtain ⟨h_cm, h_co, h_bf, h_sv, h_hi, h_hf, h_dk, h_se, h_pg, h_sb, h_sa, h_pr, h_ln, h_la, h_mo, h_out, h_outD⟩ := hW
  have hP0 := hP
  obtain ⟨⟨hD, hDv, hDh⟩, ⟨hRM, hch, hcs⟩, ⟨⟨n0, n1⟩, ⟨s0, s1⟩, hhs⟩, ⟨hm8, hnn, hAg, hNN, hnN, hf9⟩, ⟨T, hSB, hLT, hn38⟩, hPB, ⟨her, hfa, hss, ger, gfa, gss, gms⟩, ⟨gpo, gsi⟩, ⟨hv1, hv2, hvv⟩⟩ := hP
  have hO := hD.inv.ok
  have hI := hD.inv.ts
  have hSt := hD.inv.st
  have hS := hD.inv.sn
  have hR := hRM.1.2
  have hG := gp_inv hD
  have hb0 := hO.b0
  have hbw := hO.bw
  have hbf : ¬ Fr [] s.heap.size b := fun z => z.elim (fun q => q.elim) (fun q => by omega)
  refine v_aload_n X dL_law_1515 1516 rfl 4 rfl ?_
  refine v_aload_n X dL_law_1516 1517 rfl 5 rfl ?_
  refine v_iload X dL_law_1517 1519 rfl 0 rfl ?_
  refine v_iconst X dL_law_1519 1520 rfl ?_
  refine v_iadd X dL_law_1520 1521 rfl ?_
  refine v_scr X hM hX hbl hbf (by omega) (by omega) hLx ha1 dL_law_1521 1522 rfl ?_
  refine v_aload_n X dL_law_1522 1523 rfl 5 rfl ?_
  refine v_iload X dL_law_1523 1525 rfl 0 rfl ?_
  refine v_iconst X dL_law_1525 1526 rfl ?_
  refine v_iadd X dL_law_1526 1527 rfl ?_
  refine v_scr X hM hX hbl hbf (by omega) (by omega) hLx ha2 dL_law_1527 1528 rfl ?_
  refine v_aload_n X dL_law_1528 1529 rfl 2 rfl ?_
  refine v_mwS X hM (w_X9_isForProsecution_2_t l hl E x co hs er fa ss a1 a2 (x + 339) lg hO ga1 ga2 q0 q1 q2) kwL_isForProsecution ksL_isForProsecution kl_L_257 (As := [.ref x, .int (zI a1), .int (zI a2), .ref (x + 339)]) rfl rfl (rm_lawW rfl (by omega) (by omega)) dL_law_1529 1532 rfl (k' := kq + 1) (n' := nq + 6) rfl rfl (fun q hq => hq.elim) ⟨h_cm, h_co, h_out⟩ (fun rv H1 lo1 hM hF hpo => ?_)
  subst hpo
  replace hzl := Nat.le_trans hzl hF.1
  replace h_cm := h_cm.kept hF 1 rfl (fun q _ _ h => h.elim)
  replace h_co := h_co.kept hF 28 rfl (fun q _ _ h => h.elim)
  replace h_bf := h_bf.kept hF 28 rfl (fun q _ _ h => h.elim)
  replace h_sv := h_sv.kept hF 28 rfl (fun q _ _ h => h.elim)
  replace h_hi := h_hi.kept hF 2 rfl (fun q _ _ h => h.elim)
  replace h_hf := h_hf.kept hF (fun q _ _ h => h.elim)
  replace h_dk := h_dk.kept hF 3 rfl (fun q _ _ h => h.elim)
  replace h_se := h_se.kept hF 5 rfl (fun q _ _ h => h.elim)
  replace h_pg := h_pg.kept hF 1 rfl (fun q _ _ h => h.elim)
  replace h_sb := h_sb.kept hF 1 rfl (fun q _ _ h => h.elim)
  replace h_sa := h_sa.kept hF 1 rfl (fun q _ _ h => h.elim)
  replace h_pr := h_pr.kept hF 10 rfl (fun q _ _ h => h.elim)
  replace h_ln := h_ln.kept hF 1 rfl (fun q _ _ h => h.elim)
  replace h_la := h_la.kept hF 1 rfl (fun q _ _ h => h.elim)
  replace h_mo := h_mo.kept hF 5 rfl (fun q _ _ h => h.elim)
  replace h_out := h_out.kept hF 1 rfl (fun q _ _ h => h.elim)
  replace h_outD := h_outD.kept hF 1 rfl (fun q _ _ h => h.elim)
  show V p l e room_1 s m args below meth cd Q 9 H1 lo1 (kq + 1) (nq + 6) 1532 [(5, .int (zI i)), (4, .ref (x + 340)), (3, .ref (x + 339)), (2, .ref (x + 334)), (1, .ref x), (0, .ref b)] [.int (zI 2)]
  refine v_istore X dL_law_1532 1534 rfl (by decide) (L' := [(6, .int (zI 2)), (5, .int (zI i)), (4, .ref (x + 340)), (3, .ref (x + 339)), (2, .ref (x + 334)), (1, .ref x), (0, .ref b)]) rfl ?_
  refine v_aload_n X dL_law_1534 1535 rfl 4 rfl ?_
  refine v_aload_n X dL_law_1535 1536 rfl 6 rfl ?_
  refine v_iload X dL_law_1536 1538 rfl 1 rfl ?_
  refine v_iconst X dL_law_1538 1539 rfl ?_
  refine v_iadd X dL_law_1539 1540 rfl ?_
  refine v_scr X hM hX hbl hbf (by omega) (by omega) hLx ha1 dL_law_1540 1541 rfl ?_
  refine v_aload_n X dL_law_1541 1542 rfl 6 rfl ?_
  refine v_iload X dL_law_1542 1544 rfl 1 rfl ?_
  refine v_iconst X dL_law_1544 1545 rfl ?_
  refine v_iadd X dL_law_1545 1546 rfl ?_
  refine v_scr X hM hX hbl hbf (by omega) (by omega) hLx ha2 dL_law_1546 1547 rfl ?_
  refine v_muV X hM (h_mo.1) (c_X10_isForProsecution_2 l E (x + 334) mo co a1 a2 hO hR hI ga1 ga2 q0 q1 q2) kvX10_isForProsecution kiX10_isForProsecution kl_L_259 (q0 := 0) rfl rfl (As := [.int (zI a1), .int (zI a2)]) rfl rfl (rm_law rfl (by omega) (by omega)) dL_law_1547 1550 rfl (k' := kq + 1) (n' := nq + 6) rfl rfl (fsI (fun q q1 q2 => (Or.inr (by omega)))) h_mo (fun rv H2 lo2 hM hF hpo => ?_)
  obtain ⟨rfl, hw_0⟩ := hpo
  have h_mo : PR E (x + 334) (modelW E (x + 334) (updC mo 0 (updZ (mo 0) 0 2))) H2 := hw_0
  replace hzl := Nat.le_trans hzl hF.1
  replace h_cm := h_cm.kept hF 1 rfl (fsd (by omega))
  replace h_co := h_co.kept hF 28 rfl (fsd (by omega))
  replace h_bf := h_bf.kept hF 28 rfl (fsd (by omega))
  replace h_sv := h_sv.kept hF 28 rfl (fsd (by omega))
  replace h_hi := h_hi.kept hF 2 rfl (fsd (by omega))
  replace h_hf := h_hf.kept hF (fsd (by omega))
  replace h_dk := h_dk.kept hF 3 rfl (fsd (by omega))
  replace h_se := h_se.kept hF 5 rfl (fsd (by omega))
  replace h_pg := h_pg.kept hF 1 rfl (fsd (by omega))
  replace h_sb := h_sb.kept hF 1 rfl (fsd (by omega))
  replace h_sa := h_sa.kept hF 1 rfl (fsd (by omega))
  replace h_pr := h_pr.kept hF 10 rfl (fsd (by omega))
  replace h_ln := h_ln.kept hF 1 rfl (fsd (by omega))
  replace h_la := h_la.kept hF 1 rfl (fsd (by omega))
  replace h_out := h_out.kept hF 1 rfl (fsd (by omega))
  replace h_outD := h_outD.kept hF 1 rfl (fsd (by omega))
  show V p l e room_1 s m args below meth cd Q 9 H2 lo2 (kq + 1) (nq + 6) 1550 [(6, .int (zI 2)), (5, .int (zI i)), (4, .ref (x + 340)), (3, .ref (x + 339)), (2, .ref (x + 334)), (1, .ref x), (0, .ref b)] [.int (zI 0)]
  refine v_istore X dL_law_1550 1552 rfl (by decide) (L' := [(7, .int (zI 0)), (6, .int (zI 2)), (5, .int (zI i)), (4, .ref (x + 340)), (3, .ref (x + 339)), (2, .ref (x + 334)), (1, .ref x), (0, .ref b)]) rfl ?_
  refine v_aload_n X dL_law_1552 1553 rfl 5 rfl ?_
  refine v_rdV X hM.C h_mo.1 (c_X10_thrown l E (x + 334) (updC mo 0 (updZ (mo 0) 0 2))) kvX10_thrown kiX10_thrown kl_L_196 rfl rfl (As := []) rfl rfl (rm_law0 rfl (by omega) (by omega)) dL_law_1553 1556 rfl ?_
  show V p l e room_1 s m args below meth cd Q 9 H2 lo2 (kq + 1) (nq + 6) 1556 [(7, .int (zI 0)), (6, .int (zI 2)), (5, .int (zI i)), (4, .ref (x + 340)), (3, .ref (x + 339)), (2, .ref (x + 334)), (1, .ref x), (0, .ref b)] [.int (zI 2)]
  refine v_iload X dL_law_1556 1558 rfl 1 rfl ?_
  refine v_icmp_eq X (by omega) (by omega) dL_law_1558 1561 1563 rfl (by decide) (fun c_3 => ?_) (fun c_3 => ?_)
  · skip
    refine v_iload X dL_law_1563 1565 rfl 1 rfl ?_
    refine v_if_ne X (by omega) dL_law_1565 1568 1587 rfl (by decide) (fun c_4 => ?_) (fun c_4 => ?_)
    · skip
      refine v_goto X dL_law_1587 3555 (by decide) ?_
      refine v_widen (k' := kq + 60) (n' := nq + 4000) (by omega) (by omega) ?_
      exact V_pick [2, 3, 4, 5, 6, 7] rfl (kk _ _ hM ⟨hzl, _, _, _, _, _, _, _, _, _, _, _, _, _, _, _, _, _, _, _, _, _, _, _, _, _, _, _, _, ⟨h_cm, h_co, h_bf, h_sv, h_hi, h_hf, h_dk, h_se, h_pg, h_sb, h_sa, h_pr, h_ln, h_la, h_mo, h_out, h_outD⟩, hP0.mo_0⟩)
    · skip
      exfalso; omega
  · skip
    exfalso; omega
set_option maxHeartbeats 4000000 in
set_option maxRecDepth 20000 in
theorem lo_strength (hl : l.stackTraces = false) (X : CF p m cd code 9 s args RL) (hX : va_X b Lx xs s s.heap) (hbl : b < s.heap.size) (hLx : Lx ≤ 2560) (hM : MS E [] s H lo) (hk : kq + 60 ≤ 603072) (hn : nq + 4000 ≤ 7211113) (hx : s.heap.size ≤ x) (hzl : x + 341 ≤ H.size) {v : Nat} {N : Nat} {f : Int → Int} {nn : Int} {v2 : Nat} {N2 : Nat} {f2 : Int → Int} {n2 : Int} {co : Nat → Int → Int} {bf : Nat → Int → Int} {cv : Nat → Int → Int} {hc : Nat → Nat → Int → Int} {nx : Int} {sz : Int} {hs : Int} {er : Int} {fa : Int} {ss : Int} {dk : Nat → Int → Int} {se : Nat → Int → Int} {po : Int} {si : Int} {pr : Nat → Int → Int} {ml : Int} {ml2 : Int} {mo : Nat → Int → Int} {lg : Nat → Int64} {dg : Nat → UInt64} (hW : LawW E x v N f nn v2 N2 f2 n2 co bf cv hc nx sz hs er fa ss dk se po si pr ml ml2 mo lg dg H) (hP : LawP x v N f nn v2 N2 f2 n2 co cv hc nx sz hs er fa ss po si pr mo) (i0 : 0 ≤ i) (i1 : i + 5 ≤ (Lx : Int)) {a1 : Int} (ha1 : (xs (i + 1).toNat).toInt = a1) (ga1 : Rg a1) {a2 : Int} (ha2 : (xs (i + 2).toNat).toInt = a2) (ga2 : Rg a2) (q0 : 0 ≤ a1 ∧ a1 < co 0 0) (q1 : 0 ≤ a2 ∧ a2 < co 0 1) (q2 : 0 < co 9 (a1 * 8 + a2)) (kk : ∀ (H1 : Heap) (lo1 : List Loc), MS E [] s H1 lo1 → LawI E x H1 → V p l e room_1 s m args below meth cd Q 9 H1 lo1 (kq + 60) (nq + 4000) 3555 [(5, .int (zI i)), (4, .ref (x + 340)), (3, .ref (x + 339)), (2, .ref (x + 334)), (1, .ref x), (0, .ref b)] []) : V p l e room_1 s m args below meth cd Q 9 H lo kq nq 1590 [(5, .int (zI i)), (4, .ref (x + 340)), (3, .ref (x + 339)), (2, .ref (x + 334)), (1, .ref x), (0, .ref b)] [] := by
  obtain ⟨h_cm, h_co, h_bf, h_sv, h_hi, h_hf, h_dk, h_se, h_pg, h_sb, h_sa, h_pr, h_ln, h_la, h_mo, h_out, h_outD⟩ := hW
  have hP0 := hP
  obtain ⟨⟨hD, hDv, hDh⟩, ⟨hRM, hch, hcs⟩, ⟨⟨n0, n1⟩, ⟨s0, s1⟩, hhs⟩, ⟨hm8, hnn, hAg, hNN, hnN, hf9⟩, ⟨T, hSB, hLT, hn38⟩, hPB, ⟨her, hfa, hss, ger, gfa, gss, gms⟩, ⟨gpo, gsi⟩, ⟨hv1, hv2, hvv⟩⟩ := hP
  have hO := hD.inv.ok
  have hI := hD.inv.ts
  have hSt := hD.inv.st
  have hS := hD.inv.sn
  have hR := hRM.1.2
  have hG := gp_inv hD
  have hb0 := hO.b0
  have hbw := hO.bw
  have hbf : ¬ Fr [] s.heap.size b := fun z => z.elim (fun q => q.elim) (fun q => by omega)
  refine v_aload_n X dL_law_1590 1591 rfl 4 rfl ?_
  refine v_aload_n X dL_law_1591 1592 rfl 5 rfl ?_
  refine v_iload X dL_law_1592 1594 rfl 0 rfl ?_
  refine v_iconst X dL_law_1594 1595 rfl ?_
  refine v_iadd X dL_law_1595 1596 rfl ?_
  refine v_scr X hM hX hbl hbf (by omega) (by omega) hLx ha1 dL_law_1596 1597 rfl ?_
  refine v_aload_n X dL_law_1597 1598 rfl 5 rfl ?_
  refine v_iload X dL_law_1598 1600 rfl 0 rfl ?_
  refine v_iconst X dL_law_1600 1601 rfl ?_
  refine v_iadd X dL_law_1601 1602 rfl ?_
  refine v_scr X hM hX hbl hbf (by omega) (by omega) hLx ha2 dL_law_1602 1603 rfl ?_
  refine v_aload_n X dL_law_1603 1604 rfl 2 rfl ?_
  refine v_mwS X hM (w_X9_strength l hl E x co hs er fa ss a1 a2 (x + 339) lg hO ga1 ga2 q0 q1 q2 (by omega) (by omega)) kwL_strength ksL_strength kl_L_260 (As := [.ref x, .int (zI a1), .int (zI a2), .ref (x + 339)]) rfl rfl (rm_lawW rfl (by omega) (by omega)) dL_law_1604 1607 rfl (k' := kq + 1) (n' := nq + 6) rfl rfl (fsI (fun q q1 q2 => (Or.inr (by omega)))) ⟨h_cm, h_co, h_out⟩ (fun rv H1 lo1 hM hF hpo => ?_)
  obtain ⟨rfl, hw_0⟩ := hpo
  have h_out : PR E (x + 339) [(x + 339, .inl (E 102 4, 1, .inr (.inl (fun _ => zL (co 9 (a1 * 8 + a2))))))] H1 := hw_0
  replace hzl := Nat.le_trans hzl hF.1
  replace h_cm := h_cm.kept hF 1 rfl (fsd (by omega))
  replace h_co := h_co.kept hF 28 rfl (fsd (by omega))
  replace h_bf := h_bf.kept hF 28 rfl (fsd (by omega))
  replace h_sv := h_sv.kept hF 28 rfl (fsd (by omega))
  replace h_hi := h_hi.kept hF 2 rfl (fsd (by omega))
  replace h_hf := h_hf.kept hF (fsd (by omega))
  replace h_dk := h_dk.kept hF 3 rfl (fsd (by omega))
  replace h_se := h_se.kept hF 5 rfl (fsd (by omega))
  replace h_pg := h_pg.kept hF 1 rfl (fsd (by omega))
  replace h_sb := h_sb.kept hF 1 rfl (fsd (by omega))
  replace h_sa := h_sa.kept hF 1 rfl (fsd (by omega))
  replace h_pr := h_pr.kept hF 10 rfl (fsd (by omega))
  replace h_ln := h_ln.kept hF 1 rfl (fsd (by omega))
  replace h_la := h_la.kept hF 1 rfl (fsd (by omega))
  replace h_mo := h_mo.kept hF 5 rfl (fsd (by omega))
  replace h_outD := h_outD.kept hF 1 rfl (fsd (by omega))
  show V p l e room_1 s m args below meth cd Q 9 H1 lo1 (kq + 1) (nq + 6) 1607 [(5, .int (zI i)), (4, .ref (x + 340)), (3, .ref (x + 339)), (2, .ref (x + 334)), (1, .ref x), (0, .ref b)] [.int (zI 0)]
  refine v_istore X dL_law_1607 1609 rfl (by decide) (L' := [(6, .int (zI 0)), (5, .int (zI i)), (4, .ref (x + 340)), (3, .ref (x + 339)), (2, .ref (x + 334)), (1, .ref x), (0, .ref b)]) rfl ?_
  refine v_aload_n X dL_law_1609 1610 rfl 4 rfl ?_
  refine v_aload_n X dL_law_1610 1611 rfl 6 rfl ?_
  refine v_iload X dL_law_1611 1613 rfl 1 rfl ?_
  refine v_iconst X dL_law_1613 1614 rfl ?_
  refine v_iadd X dL_law_1614 1615 rfl ?_
  refine v_scr X hM hX hbl hbf (by omega) (by omega) hLx ha1 dL_law_1615 1616 rfl ?_
  refine v_aload_n X dL_law_1616 1617 rfl 6 rfl ?_
  refine v_iload X dL_law_1617 1619 rfl 1 rfl ?_
  refine v_iconst X dL_law_1619 1620 rfl ?_
  refine v_iadd X dL_law_1620 1621 rfl ?_
  refine v_scr X hM hX hbl hbf (by omega) (by omega) hLx ha2 dL_law_1621 1622 rfl ?_
  refine v_muV X hM (h_mo.1) (c_X10_strength l E (x + 334) mo co a1 a2 hO hR hI ga1 ga2 q0 q1 q2) kvX10_strength kiX10_strength kl_L_262 (q0 := 0) rfl rfl (As := [.int (zI a1), .int (zI a2)]) rfl rfl (rm_law rfl (by omega) (by omega)) dL_law_1622 1625 rfl (k' := kq + 1) (n' := nq + 6) rfl rfl (fsI (fun q q1 q2 => (Or.inr (by omega)))) h_mo (fun rv H2 lo2 hM hF hpo => ?_)
  obtain ⟨rfl, hw_0⟩ := hpo
  have h_mo : PR E (x + 334) (modelW E (x + 334) (updC mo 0 (updZ (mo 0) 0 0))) H2 := hw_0
  replace hzl := Nat.le_trans hzl hF.1
  replace h_cm := h_cm.kept hF 1 rfl (fsd (by omega))
  replace h_co := h_co.kept hF 28 rfl (fsd (by omega))
  replace h_bf := h_bf.kept hF 28 rfl (fsd (by omega))
  replace h_sv := h_sv.kept hF 28 rfl (fsd (by omega))
  replace h_hi := h_hi.kept hF 2 rfl (fsd (by omega))
  replace h_hf := h_hf.kept hF (fsd (by omega))
  replace h_dk := h_dk.kept hF 3 rfl (fsd (by omega))
  replace h_se := h_se.kept hF 5 rfl (fsd (by omega))
  replace h_pg := h_pg.kept hF 1 rfl (fsd (by omega))
  replace h_sb := h_sb.kept hF 1 rfl (fsd (by omega))
  replace h_sa := h_sa.kept hF 1 rfl (fsd (by omega))
  replace h_pr := h_pr.kept hF 10 rfl (fsd (by omega))
  replace h_ln := h_ln.kept hF 1 rfl (fsd (by omega))
  replace h_la := h_la.kept hF 1 rfl (fsd (by omega))
  replace h_out := h_out.kept hF 1 rfl (fsd (by omega))
  replace h_outD := h_outD.kept hF 1 rfl (fsd (by omega))
  show V p l e room_1 s m args below meth cd Q 9 H2 lo2 (kq + 1) (nq + 6) 1625 [(6, .int (zI 0)), (5, .int (zI i)), (4, .ref (x + 340)), (3, .ref (x + 339)), (2, .ref (x + 334)), (1, .ref x), (0, .ref b)] [.int (zI (co 9 (a1 * 8 + a2)))]
  refine v_istore X dL_law_1625 1627 rfl (by decide) (L' := [(7, .int (zI (co 9 (a1 * 8 + a2)))), (6, .int (zI 0)), (5, .int (zI i)), (4, .ref (x + 340)), (3, .ref (x + 339)), (2, .ref (x + 334)), (1, .ref x), (0, .ref b)]) rfl ?_
  refine v_aload_n X dL_law_1627 1628 rfl 5 rfl ?_
  refine v_rdV X hM.C h_mo.1 (c_X10_thrown l E (x + 334) (updC mo 0 (updZ (mo 0) 0 0))) kvX10_thrown kiX10_thrown kl_L_196 rfl rfl (As := []) rfl rfl (rm_law0 rfl (by omega) (by omega)) dL_law_1628 1631 rfl ?_
  show V p l e room_1 s m args below meth cd Q 9 H2 lo2 (kq + 1) (nq + 6) 1631 [(7, .int (zI (co 9 (a1 * 8 + a2)))), (6, .int (zI 0)), (5, .int (zI i)), (4, .ref (x + 340)), (3, .ref (x + 339)), (2, .ref (x + 334)), (1, .ref x), (0, .ref b)] [.int (zI 0)]
  refine v_iload X dL_law_1631 1633 rfl 1 rfl ?_
  refine v_icmp_eq X (by omega) (by omega) dL_law_1633 1636 1638 rfl (by decide) (fun c_3 => ?_) (fun c_3 => ?_)
  · skip
    refine v_iload X dL_law_1638 1640 rfl 1 rfl ?_
    refine v_if_ne X (by omega) dL_law_1640 1643 1655 rfl (by decide) (fun c_4 => ?_) (fun c_4 => ?_)
    · skip
      exfalso; omega
    · skip
      refine v_aload_n X dL_law_1643 1644 rfl 4 rfl ?_
      refine v_iconst X dL_law_1644 1645 rfl ?_
      refine v_lald X hM.C h_out.1 0 rfl dL_law_1645 1646 rfl ?_
      show V p l e room_1 s m args below meth cd Q 9 H2 lo2 (kq + 1) (nq + 6) 1646 [(7, .int (zI (co 9 (a1 * 8 + a2)))), (6, .int (zI 0)), (5, .int (zI i)), (4, .ref (x + 340)), (3, .ref (x + 339)), (2, .ref (x + 334)), (1, .ref x), (0, .ref b)] [.long (zL (co 9 (a1 * 8 + a2)))]
      refine v_iload X dL_law_1646 1648 rfl 0 rfl ?_
      refine v_i2l X dL_law_1648 1649 rfl ?_
      refine v_lcmp0 X dL_law_1649 1650 rfl ?_
      refine v_if_eq X (by omega) dL_law_1650 1653 1655 rfl (by decide) (fun c_5 => ?_) (fun c_5 => ?_)
      · skip
        refine v_goto X dL_law_1655 3555 (by decide) ?_
        refine v_widen (k' := kq + 60) (n' := nq + 4000) (by omega) (by omega) ?_
        exact V_pick [2, 3, 4, 5, 6, 7] rfl (kk _ _ hM ⟨hzl, _, _, _, _, _, _, _, _, _, _, _, _, _, _, _, _, _, _, _, _, _, _, _, _, _, _, _, _, ⟨h_cm, h_co, h_bf, h_sv, h_hi, h_hf, h_dk, h_se, h_pg, h_sb, h_sa, h_pr, h_ln, h_la, h_mo, h_out, h_outD⟩, hP0.mo_0⟩)
      · skip
        exfalso; omega
  · skip
    exfalso; omega
set_option maxHeartbeats 4000000 in
set_option maxRecDepth 20000 in
theorem lo_strength_1 (hl : l.stackTraces = false) (X : CF p m cd code 9 s args RL) (hX : va_X b Lx xs s s.heap) (hbl : b < s.heap.size) (hLx : Lx ≤ 2560) (hM : MS E [] s H lo) (hk : kq + 60 ≤ 603072) (hn : nq + 4000 ≤ 7211113) (hx : s.heap.size ≤ x) (hzl : x + 341 ≤ H.size) {v : Nat} {N : Nat} {f : Int → Int} {nn : Int} {v2 : Nat} {N2 : Nat} {f2 : Int → Int} {n2 : Int} {co : Nat → Int → Int} {bf : Nat → Int → Int} {cv : Nat → Int → Int} {hc : Nat → Nat → Int → Int} {nx : Int} {sz : Int} {hs : Int} {er : Int} {fa : Int} {ss : Int} {dk : Nat → Int → Int} {se : Nat → Int → Int} {po : Int} {si : Int} {pr : Nat → Int → Int} {ml : Int} {ml2 : Int} {mo : Nat → Int → Int} {lg : Nat → Int64} {dg : Nat → UInt64} (hW : LawW E x v N f nn v2 N2 f2 n2 co bf cv hc nx sz hs er fa ss dk se po si pr ml ml2 mo lg dg H) (hP : LawP x v N f nn v2 N2 f2 n2 co cv hc nx sz hs er fa ss po si pr mo) (i0 : 0 ≤ i) (i1 : i + 5 ≤ (Lx : Int)) {a1 : Int} (ha1 : (xs (i + 1).toNat).toInt = a1) (ga1 : Rg a1) {a2 : Int} (ha2 : (xs (i + 2).toNat).toInt = a2) (ga2 : Rg a2) (q0 : ¬ (0 ≤ a1 ∧ a1 < co 0 0)) (kk : ∀ (H1 : Heap) (lo1 : List Loc), MS E [] s H1 lo1 → LawI E x H1 → V p l e room_1 s m args below meth cd Q 9 H1 lo1 (kq + 60) (nq + 4000) 3555 [(5, .int (zI i)), (4, .ref (x + 340)), (3, .ref (x + 339)), (2, .ref (x + 334)), (1, .ref x), (0, .ref b)] []) : V p l e room_1 s m args below meth cd Q 9 H lo kq nq 1590 [(5, .int (zI i)), (4, .ref (x + 340)), (3, .ref (x + 339)), (2, .ref (x + 334)), (1, .ref x), (0, .ref b)] [] := by
  obtain ⟨h_cm, h_co, h_bf, h_sv, h_hi, h_hf, h_dk, h_se, h_pg, h_sb, h_sa, h_pr, h_ln, h_la, h_mo, h_out, h_outD⟩ := hW
  have hP0 := hP
  obtain ⟨⟨hD, hDv, hDh⟩, ⟨hRM, hch, hcs⟩, ⟨⟨n0, n1⟩, ⟨s0, s1⟩, hhs⟩, ⟨hm8, hnn, hAg, hNN, hnN, hf9⟩, ⟨T, hSB, hLT, hn38⟩, hPB, ⟨her, hfa, hss, ger, gfa, gss, gms⟩, ⟨gpo, gsi⟩, ⟨hv1, hv2, hvv⟩⟩ := hP
  have hO := hD.inv.ok
  have hI := hD.inv.ts
  have hSt := hD.inv.st
  have hS := hD.inv.sn
  have hR := hRM.1.2
  have hG := gp_inv hD
  have hb0 := hO.b0
  have hbw := hO.bw
  have hbf : ¬ Fr [] s.heap.size b := fun z => z.elim (fun q => q.elim) (fun q => by omega)
  refine v_aload_n X dL_law_1590 1591 rfl 4 rfl ?_
  refine v_aload_n X dL_law_1591 1592 rfl 5 rfl ?_
  refine v_iload X dL_law_1592 1594 rfl 0 rfl ?_
  refine v_iconst X dL_law_1594 1595 rfl ?_
  refine v_iadd X dL_law_1595 1596 rfl ?_
  refine v_scr X hM hX hbl hbf (by omega) (by omega) hLx ha1 dL_law_1596 1597 rfl ?_
  refine v_aload_n X dL_law_1597 1598 rfl 5 rfl ?_
  refine v_iload X dL_law_1598 1600 rfl 0 rfl ?_
  refine v_iconst X dL_law_1600 1601 rfl ?_
  refine v_iadd X dL_law_1601 1602 rfl ?_
  refine v_scr X hM hX hbl hbf (by omega) (by omega) hLx ha2 dL_law_1602 1603 rfl ?_
  refine v_aload_n X dL_law_1603 1604 rfl 2 rfl ?_
  refine v_mwS X hM (w_X9_strength_0_t l hl E x co hs er fa ss a1 a2 (x + 339) lg hO ga1 ga2 q0) kwL_strength ksL_strength kl_L_260 (As := [.ref x, .int (zI a1), .int (zI a2), .ref (x + 339)]) rfl rfl (rm_lawW rfl (by omega) (by omega)) dL_law_1604 1607 rfl (k' := kq + 1) (n' := nq + 6) rfl rfl (fun q hq => hq.elim) ⟨h_cm, h_co, h_out⟩ (fun rv H1 lo1 hM hF hpo => ?_)
  subst hpo
  replace hzl := Nat.le_trans hzl hF.1
  replace h_cm := h_cm.kept hF 1 rfl (fun q _ _ h => h.elim)
  replace h_co := h_co.kept hF 28 rfl (fun q _ _ h => h.elim)
  replace h_bf := h_bf.kept hF 28 rfl (fun q _ _ h => h.elim)
  replace h_sv := h_sv.kept hF 28 rfl (fun q _ _ h => h.elim)
  replace h_hi := h_hi.kept hF 2 rfl (fun q _ _ h => h.elim)
  replace h_hf := h_hf.kept hF (fun q _ _ h => h.elim)
  replace h_dk := h_dk.kept hF 3 rfl (fun q _ _ h => h.elim)
  replace h_se := h_se.kept hF 5 rfl (fun q _ _ h => h.elim)
  replace h_pg := h_pg.kept hF 1 rfl (fun q _ _ h => h.elim)
  replace h_sb := h_sb.kept hF 1 rfl (fun q _ _ h => h.elim)
  replace h_sa := h_sa.kept hF 1 rfl (fun q _ _ h => h.elim)
  replace h_pr := h_pr.kept hF 10 rfl (fun q _ _ h => h.elim)
  replace h_ln := h_ln.kept hF 1 rfl (fun q _ _ h => h.elim)
  replace h_la := h_la.kept hF 1 rfl (fun q _ _ h => h.elim)
  replace h_mo := h_mo.kept hF 5 rfl (fun q _ _ h => h.elim)
  replace h_out := h_out.kept hF 1 rfl (fun q _ _ h => h.elim)
  replace h_outD := h_outD.kept hF 1 rfl (fun q _ _ h => h.elim)
  show V p l e room_1 s m args below meth cd Q 9 H1 lo1 (kq + 1) (nq + 6) 1607 [(5, .int (zI i)), (4, .ref (x + 340)), (3, .ref (x + 339)), (2, .ref (x + 334)), (1, .ref x), (0, .ref b)] [.int (zI 1)]
  refine v_istore X dL_law_1607 1609 rfl (by decide) (L' := [(6, .int (zI 1)), (5, .int (zI i)), (4, .ref (x + 340)), (3, .ref (x + 339)), (2, .ref (x + 334)), (1, .ref x), (0, .ref b)]) rfl ?_
  refine v_aload_n X dL_law_1609 1610 rfl 4 rfl ?_
  refine v_aload_n X dL_law_1610 1611 rfl 6 rfl ?_
  refine v_iload X dL_law_1611 1613 rfl 1 rfl ?_
  refine v_iconst X dL_law_1613 1614 rfl ?_
  refine v_iadd X dL_law_1614 1615 rfl ?_
  refine v_scr X hM hX hbl hbf (by omega) (by omega) hLx ha1 dL_law_1615 1616 rfl ?_
  refine v_aload_n X dL_law_1616 1617 rfl 6 rfl ?_
  refine v_iload X dL_law_1617 1619 rfl 1 rfl ?_
  refine v_iconst X dL_law_1619 1620 rfl ?_
  refine v_iadd X dL_law_1620 1621 rfl ?_
  refine v_scr X hM hX hbl hbf (by omega) (by omega) hLx ha2 dL_law_1621 1622 rfl ?_
  refine v_muV X hM (h_mo.1) (c_X10_strength_0 l E (x + 334) mo co a1 a2 hO hR hI ga1 ga2 q0) kvX10_strength kiX10_strength kl_L_262 (q0 := 0) rfl rfl (As := [.int (zI a1), .int (zI a2)]) rfl rfl (rm_law rfl (by omega) (by omega)) dL_law_1622 1625 rfl (k' := kq + 1) (n' := nq + 6) rfl rfl (fsI (fun q q1 q2 => (Or.inr (by omega)))) h_mo (fun rv H2 lo2 hM hF hpo => ?_)
  obtain ⟨rfl, hw_0⟩ := hpo
  have h_mo : PR E (x + 334) (modelW E (x + 334) (updC mo 0 (updZ (mo 0) 0 1))) H2 := hw_0
  replace hzl := Nat.le_trans hzl hF.1
  replace h_cm := h_cm.kept hF 1 rfl (fsd (by omega))
  replace h_co := h_co.kept hF 28 rfl (fsd (by omega))
  replace h_bf := h_bf.kept hF 28 rfl (fsd (by omega))
  replace h_sv := h_sv.kept hF 28 rfl (fsd (by omega))
  replace h_hi := h_hi.kept hF 2 rfl (fsd (by omega))
  replace h_hf := h_hf.kept hF (fsd (by omega))
  replace h_dk := h_dk.kept hF 3 rfl (fsd (by omega))
  replace h_se := h_se.kept hF 5 rfl (fsd (by omega))
  replace h_pg := h_pg.kept hF 1 rfl (fsd (by omega))
  replace h_sb := h_sb.kept hF 1 rfl (fsd (by omega))
  replace h_sa := h_sa.kept hF 1 rfl (fsd (by omega))
  replace h_pr := h_pr.kept hF 10 rfl (fsd (by omega))
  replace h_ln := h_ln.kept hF 1 rfl (fsd (by omega))
  replace h_la := h_la.kept hF 1 rfl (fsd (by omega))
  replace h_out := h_out.kept hF 1 rfl (fsd (by omega))
  replace h_outD := h_outD.kept hF 1 rfl (fsd (by omega))
  show V p l e room_1 s m args below meth cd Q 9 H2 lo2 (kq + 1) (nq + 6) 1625 [(6, .int (zI 1)), (5, .int (zI i)), (4, .ref (x + 340)), (3, .ref (x + 339)), (2, .ref (x + 334)), (1, .ref x), (0, .ref b)] [.int (zI 0)]
  refine v_istore X dL_law_1625 1627 rfl (by decide) (L' := [(7, .int (zI 0)), (6, .int (zI 1)), (5, .int (zI i)), (4, .ref (x + 340)), (3, .ref (x + 339)), (2, .ref (x + 334)), (1, .ref x), (0, .ref b)]) rfl ?_
  refine v_aload_n X dL_law_1627 1628 rfl 5 rfl ?_
  refine v_rdV X hM.C h_mo.1 (c_X10_thrown l E (x + 334) (updC mo 0 (updZ (mo 0) 0 1))) kvX10_thrown kiX10_thrown kl_L_196 rfl rfl (As := []) rfl rfl (rm_law0 rfl (by omega) (by omega)) dL_law_1628 1631 rfl ?_
  show V p l e room_1 s m args below meth cd Q 9 H2 lo2 (kq + 1) (nq + 6) 1631 [(7, .int (zI 0)), (6, .int (zI 1)), (5, .int (zI i)), (4, .ref (x + 340)), (3, .ref (x + 339)), (2, .ref (x + 334)), (1, .ref x), (0, .ref b)] [.int (zI 1)]
  refine v_iload X dL_law_1631 1633 rfl 1 rfl ?_
  refine v_icmp_eq X (by omega) (by omega) dL_law_1633 1636 1638 rfl (by decide) (fun c_3 => ?_) (fun c_3 => ?_)
  · skip
    refine v_iload X dL_law_1638 1640 rfl 1 rfl ?_
    refine v_if_ne X (by omega) dL_law_1640 1643 1655 rfl (by decide) (fun c_4 => ?_) (fun c_4 => ?_)
    · skip
      refine v_goto X dL_law_1655 3555 (by decide) ?_
      refine v_widen (k' := kq + 60) (n' := nq + 4000) (by omega) (by omega) ?_
      exact V_pick [2, 3, 4, 5, 6, 7] rfl (kk _ _ hM ⟨hzl, _, _, _, _, _, _, _, _, _, _, _, _, _, _, _, _, _, _, _, _, _, _, _, _, _, _, _, _, ⟨h_cm, h_co, h_bf, h_sv, h_hi, h_hf, h_dk, h_se, h_pg, h_sb, h_sa, h_pr, h_ln, h_la, h_mo, h_out, h_outD⟩, hP0.mo_0⟩)
    · skip
      exfalso; omega
  · skip
    exfalso; omega
set_option maxHeartbeats 4000000 in
set_option maxRecDepth 20000 in
theorem lo_strength_2 (hl : l.stackTraces = false) (X : CF p m cd code 9 s args RL) (hX : va_X b Lx xs s s.heap) (hbl : b < s.heap.size) (hLx : Lx ≤ 2560) (hM : MS E [] s H lo) (hk : kq + 60 ≤ 603072) (hn : nq + 4000 ≤ 7211113) (hx : s.heap.size ≤ x) (hzl : x + 341 ≤ H.size) {v : Nat} {N : Nat} {f : Int → Int} {nn : Int} {v2 : Nat} {N2 : Nat} {f2 : Int → Int} {n2 : Int} {co : Nat → Int → Int} {bf : Nat → Int → Int} {cv : Nat → Int → Int} {hc : Nat → Nat → Int → Int} {nx : Int} {sz : Int} {hs : Int} {er : Int} {fa : Int} {ss : Int} {dk : Nat → Int → Int} {se : Nat → Int → Int} {po : Int} {si : Int} {pr : Nat → Int → Int} {ml : Int} {ml2 : Int} {mo : Nat → Int → Int} {lg : Nat → Int64} {dg : Nat → UInt64} (hW : LawW E x v N f nn v2 N2 f2 n2 co bf cv hc nx sz hs er fa ss dk se po si pr ml ml2 mo lg dg H) (hP : LawP x v N f nn v2 N2 f2 n2 co cv hc nx sz hs er fa ss po si pr mo) (i0 : 0 ≤ i) (i1 : i + 5 ≤ (Lx : Int)) {a1 : Int} (ha1 : (xs (i + 1).toNat).toInt = a1) (ga1 : Rg a1) {a2 : Int} (ha2 : (xs (i + 2).toNat).toInt = a2) (ga2 : Rg a2) (q0 : 0 ≤ a1 ∧ a1 < co 0 0) (q1 : ¬ (0 ≤ a2 ∧ a2 < co 0 1)) (kk : ∀ (H1 : Heap) (lo1 : List Loc), MS E [] s H1 lo1 → LawI E x H1 → V p l e room_1 s m args below meth cd Q 9 H1 lo1 (kq + 60) (nq + 4000) 3555 [(5, .int (zI i)), (4, .ref (x + 340)), (3, .ref (x + 339)), (2, .ref (x + 334)), (1, .ref x), (0, .ref b)] []) : V p l e room_1 s m args below meth cd Q 9 H lo kq nq 1590 [(5, .int (zI i)), (4, .ref (x + 340)), (3, .ref (x + 339)), (2, .ref (x + 334)), (1, .ref x), (0, .ref b)] [] := by
  obtain ⟨h_cm, h_co, h_bf, h_sv, h_hi, h_hf, h_dk, h_se, h_pg, h_sb, h_sa, h_pr, h_ln, h_la, h_mo, h_out, h_outD⟩ := hW
  have hP0 := hP
  obtain ⟨⟨hD, hDv, hDh⟩, ⟨hRM, hch, hcs⟩, ⟨⟨n0, n1⟩, ⟨s0, s1⟩, hhs⟩, ⟨hm8, hnn, hAg, hNN, hnN, hf9⟩, ⟨T, hSB, hLT, hn38⟩, hPB, ⟨her, hfa, hss, ger, gfa, gss, gms⟩, ⟨gpo, gsi⟩, ⟨hv1, hv2, hvv⟩⟩ := hP
  have hO := hD.inv.ok
  have hI := hD.inv.ts
  have hSt := hD.inv.st
  have hS := hD.inv.sn
  have hR := hRM.1.2
  have hG := gp_inv hD
  have hb0 := hO.b0
  have hbw := hO.bw
  have hbf : ¬ Fr [] s.heap.size b := fun z => z.elim (fun q => q.elim) (fun q => by omega)
  refine v_aload_n X dL_law_1590 1591 rfl 4 rfl ?_
  refine v_aload_n X dL_law_1591 1592 rfl 5 rfl ?_
  refine v_iload X dL_law_1592 1594 rfl 0 rfl ?_
  refine v_iconst X dL_law_1594 1595 rfl ?_
  refine v_iadd X dL_law_1595 1596 rfl ?_
  refine v_scr X hM hX hbl hbf (by omega) (by omega) hLx ha1 dL_law_1596 1597 rfl ?_
  refine v_aload_n X dL_law_1597 1598 rfl 5 rfl ?_
  refine v_iload X dL_law_1598 1600 rfl 0 rfl ?_
  refine v_iconst X dL_law_1600 1601 rfl ?_
  refine v_iadd X dL_law_1601 1602 rfl ?_
  refine v_scr X hM hX hbl hbf (by omega) (by omega) hLx ha2 dL_law_1602 1603 rfl ?_
  refine v_aload_n X dL_law_1603 1604 rfl 2 rfl ?_
  refine v_mwS X hM (w_X9_strength_1_t l hl E x co hs er fa ss a1 a2 (x + 339) lg hO ga1 ga2 q0 q1) kwL_strength ksL_strength kl_L_260 (As := [.ref x, .int (zI a1), .int (zI a2), .ref (x + 339)]) rfl rfl (rm_lawW rfl (by omega) (by omega)) dL_law_1604 1607 rfl (k' := kq + 1) (n' := nq + 6) rfl rfl (fun q hq => hq.elim) ⟨h_cm, h_co, h_out⟩ (fun rv H1 lo1 hM hF hpo => ?_)
  subst hpo
  replace hzl := Nat.le_trans hzl hF.1
  replace h_cm := h_cm.kept hF 1 rfl (fun q _ _ h => h.elim)
  replace h_co := h_co.kept hF 28 rfl (fun q _ _ h => h.elim)
  replace h_bf := h_bf.kept hF 28 rfl (fun q _ _ h => h.elim)
  replace h_sv := h_sv.kept hF 28 rfl (fun q _ _ h => h.elim)
  replace h_hi := h_hi.kept hF 2 rfl (fun q _ _ h => h.elim)
  replace h_hf := h_hf.kept hF (fun q _ _ h => h.elim)
  replace h_dk := h_dk.kept hF 3 rfl (fun q _ _ h => h.elim)
  replace h_se := h_se.kept hF 5 rfl (fun q _ _ h => h.elim)
  replace h_pg := h_pg.kept hF 1 rfl (fun q _ _ h => h.elim)
  replace h_sb := h_sb.kept hF 1 rfl (fun q _ _ h => h.elim)
  replace h_sa := h_sa.kept hF 1 rfl (fun q _ _ h => h.elim)
  replace h_pr := h_pr.kept hF 10 rfl (fun q _ _ h => h.elim)
  replace h_ln := h_ln.kept hF 1 rfl (fun q _ _ h => h.elim)
  replace h_la := h_la.kept hF 1 rfl (fun q _ _ h => h.elim)
  replace h_mo := h_mo.kept hF 5 rfl (fun q _ _ h => h.elim)
  replace h_out := h_out.kept hF 1 rfl (fun q _ _ h => h.elim)
  replace h_outD := h_outD.kept hF 1 rfl (fun q _ _ h => h.elim)
  show V p l e room_1 s m args below meth cd Q 9 H1 lo1 (kq + 1) (nq + 6) 1607 [(5, .int (zI i)), (4, .ref (x + 340)), (3, .ref (x + 339)), (2, .ref (x + 334)), (1, .ref x), (0, .ref b)] [.int (zI 1)]
  refine v_istore X dL_law_1607 1609 rfl (by decide) (L' := [(6, .int (zI 1)), (5, .int (zI i)), (4, .ref (x + 340)), (3, .ref (x + 339)), (2, .ref (x + 334)), (1, .ref x), (0, .ref b)]) rfl ?_
  refine v_aload_n X dL_law_1609 1610 rfl 4 rfl ?_
  refine v_aload_n X dL_law_1610 1611 rfl 6 rfl ?_
  refine v_iload X dL_law_1611 1613 rfl 1 rfl ?_
  refine v_iconst X dL_law_1613 1614 rfl ?_
  refine v_iadd X dL_law_1614 1615 rfl ?_
  refine v_scr X hM hX hbl hbf (by omega) (by omega) hLx ha1 dL_law_1615 1616 rfl ?_
  refine v_aload_n X dL_law_1616 1617 rfl 6 rfl ?_
  refine v_iload X dL_law_1617 1619 rfl 1 rfl ?_
  refine v_iconst X dL_law_1619 1620 rfl ?_
  refine v_iadd X dL_law_1620 1621 rfl ?_
  refine v_scr X hM hX hbl hbf (by omega) (by omega) hLx ha2 dL_law_1621 1622 rfl ?_
  refine v_muV X hM (h_mo.1) (c_X10_strength_1 l E (x + 334) mo co a1 a2 hO hR hI ga1 ga2 q0 q1) kvX10_strength kiX10_strength kl_L_262 (q0 := 0) rfl rfl (As := [.int (zI a1), .int (zI a2)]) rfl rfl (rm_law rfl (by omega) (by omega)) dL_law_1622 1625 rfl (k' := kq + 1) (n' := nq + 6) rfl rfl (fsI (fun q q1 q2 => (Or.inr (by omega)))) h_mo (fun rv H2 lo2 hM hF hpo => ?_)
  obtain ⟨rfl, hw_0⟩ := hpo
  have h_mo : PR E (x + 334) (modelW E (x + 334) (updC mo 0 (updZ (mo 0) 0 1))) H2 := hw_0
  replace hzl := Nat.le_trans hzl hF.1
  replace h_cm := h_cm.kept hF 1 rfl (fsd (by omega))
  replace h_co := h_co.kept hF 28 rfl (fsd (by omega))
  replace h_bf := h_bf.kept hF 28 rfl (fsd (by omega))
  replace h_sv := h_sv.kept hF 28 rfl (fsd (by omega))
  replace h_hi := h_hi.kept hF 2 rfl (fsd (by omega))
  replace h_hf := h_hf.kept hF (fsd (by omega))
  replace h_dk := h_dk.kept hF 3 rfl (fsd (by omega))
  replace h_se := h_se.kept hF 5 rfl (fsd (by omega))
  replace h_pg := h_pg.kept hF 1 rfl (fsd (by omega))
  replace h_sb := h_sb.kept hF 1 rfl (fsd (by omega))
  replace h_sa := h_sa.kept hF 1 rfl (fsd (by omega))
  replace h_pr := h_pr.kept hF 10 rfl (fsd (by omega))
  replace h_ln := h_ln.kept hF 1 rfl (fsd (by omega))
  replace h_la := h_la.kept hF 1 rfl (fsd (by omega))
  replace h_out := h_out.kept hF 1 rfl (fsd (by omega))
  replace h_outD := h_outD.kept hF 1 rfl (fsd (by omega))
  show V p l e room_1 s m args below meth cd Q 9 H2 lo2 (kq + 1) (nq + 6) 1625 [(6, .int (zI 1)), (5, .int (zI i)), (4, .ref (x + 340)), (3, .ref (x + 339)), (2, .ref (x + 334)), (1, .ref x), (0, .ref b)] [.int (zI 0)]
  refine v_istore X dL_law_1625 1627 rfl (by decide) (L' := [(7, .int (zI 0)), (6, .int (zI 1)), (5, .int (zI i)), (4, .ref (x + 340)), (3, .ref (x + 339)), (2, .ref (x + 334)), (1, .ref x), (0, .ref b)]) rfl ?_
  refine v_aload_n X dL_law_1627 1628 rfl 5 rfl ?_
  refine v_rdV X hM.C h_mo.1 (c_X10_thrown l E (x + 334) (updC mo 0 (updZ (mo 0) 0 1))) kvX10_thrown kiX10_thrown kl_L_196 rfl rfl (As := []) rfl rfl (rm_law0 rfl (by omega) (by omega)) dL_law_1628 1631 rfl ?_
  show V p l e room_1 s m args below meth cd Q 9 H2 lo2 (kq + 1) (nq + 6) 1631 [(7, .int (zI 0)), (6, .int (zI 1)), (5, .int (zI i)), (4, .ref (x + 340)), (3, .ref (x + 339)), (2, .ref (x + 334)), (1, .ref x), (0, .ref b)] [.int (zI 1)]
  refine v_iload X dL_law_1631 1633 rfl 1 rfl ?_
  refine v_icmp_eq X (by omega) (by omega) dL_law_1633 1636 1638 rfl (by decide) (fun c_3 => ?_) (fun c_3 => ?_)
  · skip
    refine v_iload X dL_law_1638 1640 rfl 1 rfl ?_
    refine v_if_ne X (by omega) dL_law_1640 1643 1655 rfl (by decide) (fun c_4 => ?_) (fun c_4 => ?_)
    · skip
      refine v_goto X dL_law_1655 3555 (by decide) ?_
      refine v_widen (k' := kq + 60) (n' := nq + 4000) (by omega) (by omega) ?_
      exact V_pick [2, 3, 4, 5, 6, 7] rfl (kk _ _ hM ⟨hzl, _, _, _, _, _, _, _, _, _, _, _, _, _, _, _, _, _, _, _, _, _, _, _, _, _, _, _, _, ⟨h_cm, h_co, h_bf, h_sv, h_hi, h_hf, h_dk, h_se, h_pg, h_sb, h_sa, h_pr, h_ln, h_la, h_mo, h_out, h_outD⟩, hP0.mo_0⟩)
    · skip
      exfalso; omega
  · skip
    exfalso; omega
set_option maxHeartbeats 4000000 in
set_option maxRecDepth 20000 in
theorem lo_strength_3 (hl : l.stackTraces = false) (X : CF p m cd code 9 s args RL) (hX : va_X b Lx xs s s.heap) (hbl : b < s.heap.size) (hLx : Lx ≤ 2560) (hM : MS E [] s H lo) (hk : kq + 60 ≤ 603072) (hn : nq + 4000 ≤ 7211113) (hx : s.heap.size ≤ x) (hzl : x + 341 ≤ H.size) {v : Nat} {N : Nat} {f : Int → Int} {nn : Int} {v2 : Nat} {N2 : Nat} {f2 : Int → Int} {n2 : Int} {co : Nat → Int → Int} {bf : Nat → Int → Int} {cv : Nat → Int → Int} {hc : Nat → Nat → Int → Int} {nx : Int} {sz : Int} {hs : Int} {er : Int} {fa : Int} {ss : Int} {dk : Nat → Int → Int} {se : Nat → Int → Int} {po : Int} {si : Int} {pr : Nat → Int → Int} {ml : Int} {ml2 : Int} {mo : Nat → Int → Int} {lg : Nat → Int64} {dg : Nat → UInt64} (hW : LawW E x v N f nn v2 N2 f2 n2 co bf cv hc nx sz hs er fa ss dk se po si pr ml ml2 mo lg dg H) (hP : LawP x v N f nn v2 N2 f2 n2 co cv hc nx sz hs er fa ss po si pr mo) (i0 : 0 ≤ i) (i1 : i + 5 ≤ (Lx : Int)) {a1 : Int} (ha1 : (xs (i + 1).toNat).toInt = a1) (ga1 : Rg a1) {a2 : Int} (ha2 : (xs (i + 2).toNat).toInt = a2) (ga2 : Rg a2) (q0 : 0 ≤ a1 ∧ a1 < co 0 0) (q1 : 0 ≤ a2 ∧ a2 < co 0 1) (q2 : ¬ (0 < co 9 (a1 * 8 + a2))) (kk : ∀ (H1 : Heap) (lo1 : List Loc), MS E [] s H1 lo1 → LawI E x H1 → V p l e room_1 s m args below meth cd Q 9 H1 lo1 (kq + 60) (nq + 4000) 3555 [(5, .int (zI i)), (4, .ref (x + 340)), (3, .ref (x + 339)), (2, .ref (x + 334)), (1, .ref x), (0, .ref b)] []) : V p l e room_1 s m args below meth cd Q 9 H lo kq nq 1590 [(5, .int (zI i)), (4, .ref (x + 340)), (3, .ref (x + 339)), (2, .ref (x + 334)), (1, .ref x), (0, .ref b)] [] := by
  obtain ⟨h_cm, h_co, h_bf, h_sv, h_hi, h_hf, h_dk, h_se, h_pg, h_sb, h_sa, h_pr, h_ln, h_la, h_mo, h_out, h_outD⟩ := hW
  have hP0 := hP
  obtain ⟨⟨hD, hDv, hDh⟩, ⟨hRM, hch, hcs⟩, ⟨⟨n0, n1⟩, ⟨s0, s1⟩, hhs⟩, ⟨hm8, hnn, hAg, hNN, hnN, hf9⟩, ⟨T, hSB, hLT, hn38⟩, hPB, ⟨her, hfa, hss, ger, gfa, gss, gms⟩, ⟨gpo, gsi⟩, ⟨hv1, hv2, hvv⟩⟩ := hP
  have hO := hD.inv.ok
  have hI := hD.inv.ts
  have hSt := hD.inv.st
  have hS := hD.inv.sn
  have hR := hRM.1.2
  have hG := gp_inv hD
  have hb0 := hO.b0
  have hbw := hO.bw
  have hbf : ¬ Fr [] s.heap.size b := fun z => z.elim (fun q => q.elim) (fun q => by omega)
  refine v_aload_n X dL_law_1590 1591 rfl 4 rfl ?_
  refine v_aload_n X dL_law_1591 1592 rfl 5 rfl ?_
  refine v_iload X dL_law_1592 1594 rfl 0 rfl ?_
  refine v_iconst X dL_law_1594 1595 rfl ?_
  refine v_iadd X dL_law_1595 1596 rfl ?_
  refine v_scr X hM hX hbl hbf (by omega) (by omega) hLx ha1 dL_law_1596 1597 rfl ?_
  refine v_aload_n X dL_law_1597 1598 rfl 5 rfl ?_
  refine v_iload X dL_law_1598 1600 rfl 0 rfl ?_
  refine v_iconst X dL_law_1600 1601 rfl ?_
  refine v_iadd X dL_law_1601 1602 rfl ?_
  refine v_scr X hM hX hbl hbf (by omega) (by omega) hLx ha2 dL_law_1602 1603 rfl ?_
  refine v_aload_n X dL_law_1603 1604 rfl 2 rfl ?_
  refine v_mwS X hM (w_X9_strength_2_t l hl E x co hs er fa ss a1 a2 (x + 339) lg hO ga1 ga2 q0 q1 q2) kwL_strength ksL_strength kl_L_260 (As := [.ref x, .int (zI a1), .int (zI a2), .ref (x + 339)]) rfl rfl (rm_lawW rfl (by omega) (by omega)) dL_law_1604 1607 rfl (k' := kq + 1) (n' := nq + 6) rfl rfl (fun q hq => hq.elim) ⟨h_cm, h_co, h_out⟩ (fun rv H1 lo1 hM hF hpo => ?_)
  subst hpo
  replace hzl := Nat.le_trans hzl hF.1
  replace h_cm := h_cm.kept hF 1 rfl (fun q _ _ h => h.elim)
  replace h_co := h_co.kept hF 28 rfl (fun q _ _ h => h.elim)
  replace h_bf := h_bf.kept hF 28 rfl (fun q _ _ h => h.elim)
  replace h_sv := h_sv.kept hF 28 rfl (fun q _ _ h => h.elim)
  replace h_hi := h_hi.kept hF 2 rfl (fun q _ _ h => h.elim)
  replace h_hf := h_hf.kept hF (fun q _ _ h => h.elim)
  replace h_dk := h_dk.kept hF 3 rfl (fun q _ _ h => h.elim)
  replace h_se := h_se.kept hF 5 rfl (fun q _ _ h => h.elim)
  replace h_pg := h_pg.kept hF 1 rfl (fun q _ _ h => h.elim)
  replace h_sb := h_sb.kept hF 1 rfl (fun q _ _ h => h.elim)
  replace h_sa := h_sa.kept hF 1 rfl (fun q _ _ h => h.elim)
  replace h_pr := h_pr.kept hF 10 rfl (fun q _ _ h => h.elim)
  replace h_ln := h_ln.kept hF 1 rfl (fun q _ _ h => h.elim)
  replace h_la := h_la.kept hF 1 rfl (fun q _ _ h => h.elim)
  replace h_mo := h_mo.kept hF 5 rfl (fun q _ _ h => h.elim)
  replace h_out := h_out.kept hF 1 rfl (fun q _ _ h => h.elim)
  replace h_outD := h_outD.kept hF 1 rfl (fun q _ _ h => h.elim)
  show V p l e room_1 s m args below meth cd Q 9 H1 lo1 (kq + 1) (nq + 6) 1607 [(5, .int (zI i)), (4, .ref (x + 340)), (3, .ref (x + 339)), (2, .ref (x + 334)), (1, .ref x), (0, .ref b)] [.int (zI 2)]
  refine v_istore X dL_law_1607 1609 rfl (by decide) (L' := [(6, .int (zI 2)), (5, .int (zI i)), (4, .ref (x + 340)), (3, .ref (x + 339)), (2, .ref (x + 334)), (1, .ref x), (0, .ref b)]) rfl ?_
  refine v_aload_n X dL_law_1609 1610 rfl 4 rfl ?_
  refine v_aload_n X dL_law_1610 1611 rfl 6 rfl ?_
  refine v_iload X dL_law_1611 1613 rfl 1 rfl ?_
  refine v_iconst X dL_law_1613 1614 rfl ?_
  refine v_iadd X dL_law_1614 1615 rfl ?_
  refine v_scr X hM hX hbl hbf (by omega) (by omega) hLx ha1 dL_law_1615 1616 rfl ?_
  refine v_aload_n X dL_law_1616 1617 rfl 6 rfl ?_
  refine v_iload X dL_law_1617 1619 rfl 1 rfl ?_
  refine v_iconst X dL_law_1619 1620 rfl ?_
  refine v_iadd X dL_law_1620 1621 rfl ?_
  refine v_scr X hM hX hbl hbf (by omega) (by omega) hLx ha2 dL_law_1621 1622 rfl ?_
  refine v_muV X hM (h_mo.1) (c_X10_strength_2 l E (x + 334) mo co a1 a2 hO hR hI ga1 ga2 q0 q1 q2) kvX10_strength kiX10_strength kl_L_262 (q0 := 0) rfl rfl (As := [.int (zI a1), .int (zI a2)]) rfl rfl (rm_law rfl (by omega) (by omega)) dL_law_1622 1625 rfl (k' := kq + 1) (n' := nq + 6) rfl rfl (fsI (fun q q1 q2 => (Or.inr (by omega)))) h_mo (fun rv H2 lo2 hM hF hpo => ?_)
  obtain ⟨rfl, hw_0⟩ := hpo
  have h_mo : PR E (x + 334) (modelW E (x + 334) (updC mo 0 (updZ (mo 0) 0 2))) H2 := hw_0
  replace hzl := Nat.le_trans hzl hF.1
  replace h_cm := h_cm.kept hF 1 rfl (fsd (by omega))
  replace h_co := h_co.kept hF 28 rfl (fsd (by omega))
  replace h_bf := h_bf.kept hF 28 rfl (fsd (by omega))
  replace h_sv := h_sv.kept hF 28 rfl (fsd (by omega))
  replace h_hi := h_hi.kept hF 2 rfl (fsd (by omega))
  replace h_hf := h_hf.kept hF (fsd (by omega))
  replace h_dk := h_dk.kept hF 3 rfl (fsd (by omega))
  replace h_se := h_se.kept hF 5 rfl (fsd (by omega))
  replace h_pg := h_pg.kept hF 1 rfl (fsd (by omega))
  replace h_sb := h_sb.kept hF 1 rfl (fsd (by omega))
  replace h_sa := h_sa.kept hF 1 rfl (fsd (by omega))
  replace h_pr := h_pr.kept hF 10 rfl (fsd (by omega))
  replace h_ln := h_ln.kept hF 1 rfl (fsd (by omega))
  replace h_la := h_la.kept hF 1 rfl (fsd (by omega))
  replace h_out := h_out.kept hF 1 rfl (fsd (by omega))
  replace h_outD := h_outD.kept hF 1 rfl (fsd (by omega))
  show V p l e room_1 s m args below meth cd Q 9 H2 lo2 (kq + 1) (nq + 6) 1625 [(6, .int (zI 2)), (5, .int (zI i)), (4, .ref (x + 340)), (3, .ref (x + 339)), (2, .ref (x + 334)), (1, .ref x), (0, .ref b)] [.int (zI 0)]
  refine v_istore X dL_law_1625 1627 rfl (by decide) (L' := [(7, .int (zI 0)), (6, .int (zI 2)), (5, .int (zI i)), (4, .ref (x + 340)), (3, .ref (x + 339)), (2, .ref (x + 334)), (1, .ref x), (0, .ref b)]) rfl ?_
  refine v_aload_n X dL_law_1627 1628 rfl 5 rfl ?_
  refine v_rdV X hM.C h_mo.1 (c_X10_thrown l E (x + 334) (updC mo 0 (updZ (mo 0) 0 2))) kvX10_thrown kiX10_thrown kl_L_196 rfl rfl (As := []) rfl rfl (rm_law0 rfl (by omega) (by omega)) dL_law_1628 1631 rfl ?_
  show V p l e room_1 s m args below meth cd Q 9 H2 lo2 (kq + 1) (nq + 6) 1631 [(7, .int (zI 0)), (6, .int (zI 2)), (5, .int (zI i)), (4, .ref (x + 340)), (3, .ref (x + 339)), (2, .ref (x + 334)), (1, .ref x), (0, .ref b)] [.int (zI 2)]
  refine v_iload X dL_law_1631 1633 rfl 1 rfl ?_
  refine v_icmp_eq X (by omega) (by omega) dL_law_1633 1636 1638 rfl (by decide) (fun c_3 => ?_) (fun c_3 => ?_)
  · skip
    refine v_iload X dL_law_1638 1640 rfl 1 rfl ?_
    refine v_if_ne X (by omega) dL_law_1640 1643 1655 rfl (by decide) (fun c_4 => ?_) (fun c_4 => ?_)
    · skip
      refine v_goto X dL_law_1655 3555 (by decide) ?_
      refine v_widen (k' := kq + 60) (n' := nq + 4000) (by omega) (by omega) ?_
      exact V_pick [2, 3, 4, 5, 6, 7] rfl (kk _ _ hM ⟨hzl, _, _, _, _, _, _, _, _, _, _, _, _, _, _, _, _, _, _, _, _, _, _, _, _, _, _, _, _, ⟨h_cm, h_co, h_bf, h_sv, h_hi, h_hf, h_dk, h_se, h_pg, h_sb, h_sa, h_pr, h_ln, h_la, h_mo, h_out, h_outD⟩, hP0.mo_0⟩)
    · skip
      exfalso; omega
  · skip
    exfalso; omega
set_option maxHeartbeats 4000000 in
set_option maxRecDepth 20000 in
theorem lo_questionCount (hl : l.stackTraces = false) (X : CF p m cd code 9 s args RL) (hX : va_X b Lx xs s s.heap) (hbl : b < s.heap.size) (hLx : Lx ≤ 2560) (hM : MS E [] s H lo) (hk : kq + 60 ≤ 603072) (hn : nq + 4000 ≤ 7211113) (hx : s.heap.size ≤ x) (hzl : x + 341 ≤ H.size) {v : Nat} {N : Nat} {f : Int → Int} {nn : Int} {v2 : Nat} {N2 : Nat} {f2 : Int → Int} {n2 : Int} {co : Nat → Int → Int} {bf : Nat → Int → Int} {cv : Nat → Int → Int} {hc : Nat → Nat → Int → Int} {nx : Int} {sz : Int} {hs : Int} {er : Int} {fa : Int} {ss : Int} {dk : Nat → Int → Int} {se : Nat → Int → Int} {po : Int} {si : Int} {pr : Nat → Int → Int} {ml : Int} {ml2 : Int} {mo : Nat → Int → Int} {lg : Nat → Int64} {dg : Nat → UInt64} (hW : LawW E x v N f nn v2 N2 f2 n2 co bf cv hc nx sz hs er fa ss dk se po si pr ml ml2 mo lg dg H) (hP : LawP x v N f nn v2 N2 f2 n2 co cv hc nx sz hs er fa ss po si pr mo) (i0 : 0 ≤ i) (i1 : i + 5 ≤ (Lx : Int)) {a1 : Int} (ha1 : (xs (i + 1).toNat).toInt = a1) (ga1 : Rg a1) {a2 : Int} (ha2 : (xs (i + 2).toNat).toInt = a2) (ga2 : Rg a2) (q0 : 0 ≤ a1 ∧ a1 < co 0 0) (q1 : 0 ≤ a2 ∧ a2 < co 0 1) (q2 : 0 < co 9 (a1 * 8 + a2)) (kk : ∀ (H1 : Heap) (lo1 : List Loc), MS E [] s H1 lo1 → LawI E x H1 → V p l e room_1 s m args below meth cd Q 9 H1 lo1 (kq + 60) (nq + 4000) 3555 [(5, .int (zI i)), (4, .ref (x + 340)), (3, .ref (x + 339)), (2, .ref (x + 334)), (1, .ref x), (0, .ref b)] []) : V p l e room_1 s m args below meth cd Q 9 H lo kq nq 1658 [(5, .int (zI i)), (4, .ref (x + 340)), (3, .ref (x + 339)), (2, .ref (x + 334)), (1, .ref x), (0, .ref b)] [] := by
  obtain ⟨h_cm, h_co, h_bf, h_sv, h_hi, h_hf, h_dk, h_se, h_pg, h_sb, h_sa, h_pr, h_ln, h_la, h_mo, h_out, h_outD⟩ := hW
  have hP0 := hP
  obtain ⟨⟨hD, hDv, hDh⟩, ⟨hRM, hch, hcs⟩, ⟨⟨n0, n1⟩, ⟨s0, s1⟩, hhs⟩, ⟨hm8, hnn, hAg, hNN, hnN, hf9⟩, ⟨T, hSB, hLT, hn38⟩, hPB, ⟨her, hfa, hss, ger, gfa, gss, gms⟩, ⟨gpo, gsi⟩, ⟨hv1, hv2, hvv⟩⟩ := hP
  have hO := hD.inv.ok
  have hI := hD.inv.ts
  have hSt := hD.inv.st
  have hS := hD.inv.sn
  have hR := hRM.1.2
  have hG := gp_inv hD
  have hb0 := hO.b0
  have hbw := hO.bw
  have hbf : ¬ Fr [] s.heap.size b := fun z => z.elim (fun q => q.elim) (fun q => by omega)
  refine v_aload_n X dL_law_1658 1659 rfl 4 rfl ?_
  refine v_aload_n X dL_law_1659 1660 rfl 5 rfl ?_
  refine v_iload X dL_law_1660 1662 rfl 0 rfl ?_
  refine v_iconst X dL_law_1662 1663 rfl ?_
  refine v_iadd X dL_law_1663 1664 rfl ?_
  refine v_scr X hM hX hbl hbf (by omega) (by omega) hLx ha1 dL_law_1664 1665 rfl ?_
  refine v_aload_n X dL_law_1665 1666 rfl 5 rfl ?_
  refine v_iload X dL_law_1666 1668 rfl 0 rfl ?_
  refine v_iconst X dL_law_1668 1669 rfl ?_
  refine v_iadd X dL_law_1669 1670 rfl ?_
  refine v_scr X hM hX hbl hbf (by omega) (by omega) hLx ha2 dL_law_1670 1671 rfl ?_
  refine v_aload_n X dL_law_1671 1672 rfl 2 rfl ?_
  refine v_mwS X hM (w_X9_questionCount l hl E x co hs er fa ss a1 a2 (x + 339) lg hO ga1 ga2 q0 q1 q2 (by omega) (by omega)) kwL_questionCount ksL_questionCount kl_L_263 (As := [.ref x, .int (zI a1), .int (zI a2), .ref (x + 339)]) rfl rfl (rm_lawW rfl (by omega) (by omega)) dL_law_1672 1675 rfl (k' := kq + 1) (n' := nq + 6) rfl rfl (fsI (fun q q1 q2 => (Or.inr (by omega)))) ⟨h_cm, h_co, h_out⟩ (fun rv H1 lo1 hM hF hpo => ?_)
  obtain ⟨rfl, hw_0⟩ := hpo
  have h_out : PR E (x + 339) [(x + 339, .inl (E 102 4, 1, .inr (.inl (fun _ => zL (co 10 (a1 * 8 + a2))))))] H1 := hw_0
  replace hzl := Nat.le_trans hzl hF.1
  replace h_cm := h_cm.kept hF 1 rfl (fsd (by omega))
  replace h_co := h_co.kept hF 28 rfl (fsd (by omega))
  replace h_bf := h_bf.kept hF 28 rfl (fsd (by omega))
  replace h_sv := h_sv.kept hF 28 rfl (fsd (by omega))
  replace h_hi := h_hi.kept hF 2 rfl (fsd (by omega))
  replace h_hf := h_hf.kept hF (fsd (by omega))
  replace h_dk := h_dk.kept hF 3 rfl (fsd (by omega))
  replace h_se := h_se.kept hF 5 rfl (fsd (by omega))
  replace h_pg := h_pg.kept hF 1 rfl (fsd (by omega))
  replace h_sb := h_sb.kept hF 1 rfl (fsd (by omega))
  replace h_sa := h_sa.kept hF 1 rfl (fsd (by omega))
  replace h_pr := h_pr.kept hF 10 rfl (fsd (by omega))
  replace h_ln := h_ln.kept hF 1 rfl (fsd (by omega))
  replace h_la := h_la.kept hF 1 rfl (fsd (by omega))
  replace h_mo := h_mo.kept hF 5 rfl (fsd (by omega))
  replace h_outD := h_outD.kept hF 1 rfl (fsd (by omega))
  show V p l e room_1 s m args below meth cd Q 9 H1 lo1 (kq + 1) (nq + 6) 1675 [(5, .int (zI i)), (4, .ref (x + 340)), (3, .ref (x + 339)), (2, .ref (x + 334)), (1, .ref x), (0, .ref b)] [.int (zI 0)]
  refine v_istore X dL_law_1675 1677 rfl (by decide) (L' := [(6, .int (zI 0)), (5, .int (zI i)), (4, .ref (x + 340)), (3, .ref (x + 339)), (2, .ref (x + 334)), (1, .ref x), (0, .ref b)]) rfl ?_
  refine v_aload_n X dL_law_1677 1678 rfl 4 rfl ?_
  refine v_aload_n X dL_law_1678 1679 rfl 6 rfl ?_
  refine v_iload X dL_law_1679 1681 rfl 1 rfl ?_
  refine v_iconst X dL_law_1681 1682 rfl ?_
  refine v_iadd X dL_law_1682 1683 rfl ?_
  refine v_scr X hM hX hbl hbf (by omega) (by omega) hLx ha1 dL_law_1683 1684 rfl ?_
  refine v_aload_n X dL_law_1684 1685 rfl 6 rfl ?_
  refine v_iload X dL_law_1685 1687 rfl 1 rfl ?_
  refine v_iconst X dL_law_1687 1688 rfl ?_
  refine v_iadd X dL_law_1688 1689 rfl ?_
  refine v_scr X hM hX hbl hbf (by omega) (by omega) hLx ha2 dL_law_1689 1690 rfl ?_
  refine v_muV X hM (h_mo.1) (c_X10_questionCount l E (x + 334) mo co a1 a2 hO hR hI ga1 ga2 q0 q1 q2) kvX10_questionCount kiX10_questionCount kl_L_265 (q0 := 0) rfl rfl (As := [.int (zI a1), .int (zI a2)]) rfl rfl (rm_law rfl (by omega) (by omega)) dL_law_1690 1693 rfl (k' := kq + 1) (n' := nq + 6) rfl rfl (fsI (fun q q1 q2 => (Or.inr (by omega)))) h_mo (fun rv H2 lo2 hM hF hpo => ?_)
  obtain ⟨rfl, hw_0⟩ := hpo
  have h_mo : PR E (x + 334) (modelW E (x + 334) (updC mo 0 (updZ (mo 0) 0 0))) H2 := hw_0
  replace hzl := Nat.le_trans hzl hF.1
  replace h_cm := h_cm.kept hF 1 rfl (fsd (by omega))
  replace h_co := h_co.kept hF 28 rfl (fsd (by omega))
  replace h_bf := h_bf.kept hF 28 rfl (fsd (by omega))
  replace h_sv := h_sv.kept hF 28 rfl (fsd (by omega))
  replace h_hi := h_hi.kept hF 2 rfl (fsd (by omega))
  replace h_hf := h_hf.kept hF (fsd (by omega))
  replace h_dk := h_dk.kept hF 3 rfl (fsd (by omega))
  replace h_se := h_se.kept hF 5 rfl (fsd (by omega))
  replace h_pg := h_pg.kept hF 1 rfl (fsd (by omega))
  replace h_sb := h_sb.kept hF 1 rfl (fsd (by omega))
  replace h_sa := h_sa.kept hF 1 rfl (fsd (by omega))
  replace h_pr := h_pr.kept hF 10 rfl (fsd (by omega))
  replace h_ln := h_ln.kept hF 1 rfl (fsd (by omega))
  replace h_la := h_la.kept hF 1 rfl (fsd (by omega))
  replace h_out := h_out.kept hF 1 rfl (fsd (by omega))
  replace h_outD := h_outD.kept hF 1 rfl (fsd (by omega))
  show V p l e room_1 s m args below meth cd Q 9 H2 lo2 (kq + 1) (nq + 6) 1693 [(6, .int (zI 0)), (5, .int (zI i)), (4, .ref (x + 340)), (3, .ref (x + 339)), (2, .ref (x + 334)), (1, .ref x), (0, .ref b)] [.int (zI (co 10 (a1 * 8 + a2)))]
  refine v_istore X dL_law_1693 1695 rfl (by decide) (L' := [(7, .int (zI (co 10 (a1 * 8 + a2)))), (6, .int (zI 0)), (5, .int (zI i)), (4, .ref (x + 340)), (3, .ref (x + 339)), (2, .ref (x + 334)), (1, .ref x), (0, .ref b)]) rfl ?_
  refine v_aload_n X dL_law_1695 1696 rfl 5 rfl ?_
  refine v_rdV X hM.C h_mo.1 (c_X10_thrown l E (x + 334) (updC mo 0 (updZ (mo 0) 0 0))) kvX10_thrown kiX10_thrown kl_L_196 rfl rfl (As := []) rfl rfl (rm_law0 rfl (by omega) (by omega)) dL_law_1696 1699 rfl ?_
  show V p l e room_1 s m args below meth cd Q 9 H2 lo2 (kq + 1) (nq + 6) 1699 [(7, .int (zI (co 10 (a1 * 8 + a2)))), (6, .int (zI 0)), (5, .int (zI i)), (4, .ref (x + 340)), (3, .ref (x + 339)), (2, .ref (x + 334)), (1, .ref x), (0, .ref b)] [.int (zI 0)]
  refine v_iload X dL_law_1699 1701 rfl 1 rfl ?_
  refine v_icmp_eq X (by omega) (by omega) dL_law_1701 1704 1706 rfl (by decide) (fun c_3 => ?_) (fun c_3 => ?_)
  · skip
    refine v_iload X dL_law_1706 1708 rfl 1 rfl ?_
    refine v_if_ne X (by omega) dL_law_1708 1711 1723 rfl (by decide) (fun c_4 => ?_) (fun c_4 => ?_)
    · skip
      exfalso; omega
    · skip
      refine v_aload_n X dL_law_1711 1712 rfl 4 rfl ?_
      refine v_iconst X dL_law_1712 1713 rfl ?_
      refine v_lald X hM.C h_out.1 0 rfl dL_law_1713 1714 rfl ?_
      show V p l e room_1 s m args below meth cd Q 9 H2 lo2 (kq + 1) (nq + 6) 1714 [(7, .int (zI (co 10 (a1 * 8 + a2)))), (6, .int (zI 0)), (5, .int (zI i)), (4, .ref (x + 340)), (3, .ref (x + 339)), (2, .ref (x + 334)), (1, .ref x), (0, .ref b)] [.long (zL (co 10 (a1 * 8 + a2)))]
      refine v_iload X dL_law_1714 1716 rfl 0 rfl ?_
      refine v_i2l X dL_law_1716 1717 rfl ?_
      refine v_lcmp0 X dL_law_1717 1718 rfl ?_
      refine v_if_eq X (by omega) dL_law_1718 1721 1723 rfl (by decide) (fun c_5 => ?_) (fun c_5 => ?_)
      · skip
        refine v_goto X dL_law_1723 3555 (by decide) ?_
        refine v_widen (k' := kq + 60) (n' := nq + 4000) (by omega) (by omega) ?_
        exact V_pick [2, 3, 4, 5, 6, 7] rfl (kk _ _ hM ⟨hzl, _, _, _, _, _, _, _, _, _, _, _, _, _, _, _, _, _, _, _, _, _, _, _, _, _, _, _, _, ⟨h_cm, h_co, h_bf, h_sv, h_hi, h_hf, h_dk, h_se, h_pg, h_sb, h_sa, h_pr, h_ln, h_la, h_mo, h_out, h_outD⟩, hP0.mo_0⟩)
      · skip
        exfalso; omega
  · skip
    exfalso; omega
set_option maxHeartbeats 4000000 in
set_option maxRecDepth 20000 in
theorem lo_questionCount_1 (hl : l.stackTraces = false) (X : CF p m cd code 9 s args RL) (hX : va_X b Lx xs s s.heap) (hbl : b < s.heap.size) (hLx : Lx ≤ 2560) (hM : MS E [] s H lo) (hk : kq + 60 ≤ 603072) (hn : nq + 4000 ≤ 7211113) (hx : s.heap.size ≤ x) (hzl : x + 341 ≤ H.size) {v : Nat} {N : Nat} {f : Int → Int} {nn : Int} {v2 : Nat} {N2 : Nat} {f2 : Int → Int} {n2 : Int} {co : Nat → Int → Int} {bf : Nat → Int → Int} {cv : Nat → Int → Int} {hc : Nat → Nat → Int → Int} {nx : Int} {sz : Int} {hs : Int} {er : Int} {fa : Int} {ss : Int} {dk : Nat → Int → Int} {se : Nat → Int → Int} {po : Int} {si : Int} {pr : Nat → Int → Int} {ml : Int} {ml2 : Int} {mo : Nat → Int → Int} {lg : Nat → Int64} {dg : Nat → UInt64} (hW : LawW E x v N f nn v2 N2 f2 n2 co bf cv hc nx sz hs er fa ss dk se po si pr ml ml2 mo lg dg H) (hP : LawP x v N f nn v2 N2 f2 n2 co cv hc nx sz hs er fa ss po si pr mo) (i0 : 0 ≤ i) (i1 : i + 5 ≤ (Lx : Int)) {a1 : Int} (ha1 : (xs (i + 1).toNat).toInt = a1) (ga1 : Rg a1) {a2 : Int} (ha2 : (xs (i + 2).toNat).toInt = a2) (ga2 : Rg a2) (q0 : ¬ (0 ≤ a1 ∧ a1 < co 0 0)) (kk : ∀ (H1 : Heap) (lo1 : List Loc), MS E [] s H1 lo1 → LawI E x H1 → V p l e room_1 s m args below meth cd Q 9 H1 lo1 (kq + 60) (nq + 4000) 3555 [(5, .int (zI i)), (4, .ref (x + 340)), (3, .ref (x + 339)), (2, .ref (x + 334)), (1, .ref x), (0, .ref b)] []) : V p l e room_1 s m args below meth cd Q 9 H lo kq nq 1658 [(5, .int (zI i)), (4, .ref (x + 340)), (3, .ref (x + 339)), (2, .ref (x + 334)), (1, .ref x), (0, .ref b)] [] := by
  obtain ⟨h_cm, h_co, h_bf, h_sv, h_hi, h_hf, h_dk, h_se, h_pg, h_sb, h_sa, h_pr, h_ln, h_la, h_mo, h_out, h_outD⟩ := hW
  have hP0 := hP
  obtain ⟨⟨hD, hDv, hDh⟩, ⟨hRM, hch, hcs⟩, ⟨⟨n0, n1⟩, ⟨s0, s1⟩, hhs⟩, ⟨hm8, hnn, hAg, hNN, hnN, hf9⟩, ⟨T, hSB, hLT, hn38⟩, hPB, ⟨her, hfa, hss, ger, gfa, gss, gms⟩, ⟨gpo, gsi⟩, ⟨hv1, hv2, hvv⟩⟩ := hP
  have hO := hD.inv.ok
  have hI := hD.inv.ts
  have hSt := hD.inv.st
  have hS := hD.inv.sn
  have hR := hRM.1.2
  have hG := gp_inv hD
  have hb0 := hO.b0
  have hbw := hO.bw
  have hbf : ¬ Fr [] s.heap.size b := fun z => z.elim (fun q => q.elim) (fun q => by omega)
  refine v_aload_n X dL_law_1658 1659 rfl 4 rfl ?_
  refine v_aload_n X dL_law_1659 1660 rfl 5 rfl ?_
  refine v_iload X dL_law_1660 1662 rfl 0 rfl ?_
  refine v_iconst X dL_law_1662 1663 rfl ?_
  refine v_iadd X dL_law_1663 1664 rfl ?_
  refine v_scr X hM hX hbl hbf (by omega) (by omega) hLx ha1 dL_law_1664 1665 rfl ?_
  refine v_aload_n X dL_law_1665 1666 rfl 5 rfl ?_
  refine v_iload X dL_law_1666 1668 rfl 0 rfl ?_
  refine v_iconst X dL_law_1668 1669 rfl ?_
  refine v_iadd X dL_law_1669 1670 rfl ?_
  refine v_scr X hM hX hbl hbf (by omega) (by omega) hLx ha2 dL_law_1670 1671 rfl ?_
  refine v_aload_n X dL_law_1671 1672 rfl 2 rfl ?_
  refine v_mwS X hM (w_X9_questionCount_0_t l hl E x co hs er fa ss a1 a2 (x + 339) lg hO ga1 ga2 q0) kwL_questionCount ksL_questionCount kl_L_263 (As := [.ref x, .int (zI a1), .int (zI a2), .ref (x + 339)]) rfl rfl (rm_lawW rfl (by omega) (by omega)) dL_law_1672 1675 rfl (k' := kq + 1) (n' := nq + 6) rfl rfl (fun q hq => hq.elim) ⟨h_cm, h_co, h_out⟩ (fun rv H1 lo1 hM hF hpo => ?_)
  subst hpo
  replace hzl := Nat.le_trans hzl hF.1
  replace h_cm := h_cm.kept hF 1 rfl (fun q _ _ h => h.elim)
  replace h_co := h_co.kept hF 28 rfl (fun q _ _ h => h.elim)
  replace h_bf := h_bf.kept hF 28 rfl (fun q _ _ h => h.elim)
  replace h_sv := h_sv.kept hF 28 rfl (fun q _ _ h => h.elim)
  replace h_hi := h_hi.kept hF 2 rfl (fun q _ _ h => h.elim)
  replace h_hf := h_hf.kept hF (fun q _ _ h => h.elim)
  replace h_dk := h_dk.kept hF 3 rfl (fun q _ _ h => h.elim)
  replace h_se := h_se.kept hF 5 rfl (fun q _ _ h => h.elim)
  replace h_pg := h_pg.kept hF 1 rfl (fun q _ _ h => h.elim)
  replace h_sb := h_sb.kept hF 1 rfl (fun q _ _ h => h.elim)
  replace h_sa := h_sa.kept hF 1 rfl (fun q _ _ h => h.elim)
  replace h_pr := h_pr.kept hF 10 rfl (fun q _ _ h => h.elim)
  replace h_ln := h_ln.kept hF 1 rfl (fun q _ _ h => h.elim)
  replace h_la := h_la.kept hF 1 rfl (fun q _ _ h => h.elim)
  replace h_mo := h_mo.kept hF 5 rfl (fun q _ _ h => h.elim)
  replace h_out := h_out.kept hF 1 rfl (fun q _ _ h => h.elim)
  replace h_outD := h_outD.kept hF 1 rfl (fun q _ _ h => h.elim)
  show V p l e room_1 s m args below meth cd Q 9 H1 lo1 (kq + 1) (nq + 6) 1675 [(5, .int (zI i)), (4, .ref (x + 340)), (3, .ref (x + 339)), (2, .ref (x + 334)), (1, .ref x), (0, .ref b)] [.int (zI 1)]
  refine v_istore X dL_law_1675 1677 rfl (by decide) (L' := [(6, .int (zI 1)), (5, .int (zI i)), (4, .ref (x + 340)), (3, .ref (x + 339)), (2, .ref (x + 334)), (1, .ref x), (0, .ref b)]) rfl ?_
  refine v_aload_n X dL_law_1677 1678 rfl 4 rfl ?_
  refine v_aload_n X dL_law_1678 1679 rfl 6 rfl ?_
  refine v_iload X dL_law_1679 1681 rfl 1 rfl ?_
  refine v_iconst X dL_law_1681 1682 rfl ?_
  refine v_iadd X dL_law_1682 1683 rfl ?_
  refine v_scr X hM hX hbl hbf (by omega) (by omega) hLx ha1 dL_law_1683 1684 rfl ?_
  refine v_aload_n X dL_law_1684 1685 rfl 6 rfl ?_
  refine v_iload X dL_law_1685 1687 rfl 1 rfl ?_
  refine v_iconst X dL_law_1687 1688 rfl ?_
  refine v_iadd X dL_law_1688 1689 rfl ?_
  refine v_scr X hM hX hbl hbf (by omega) (by omega) hLx ha2 dL_law_1689 1690 rfl ?_
  refine v_muV X hM (h_mo.1) (c_X10_questionCount_0 l E (x + 334) mo co a1 a2 hO hR hI ga1 ga2 q0) kvX10_questionCount kiX10_questionCount kl_L_265 (q0 := 0) rfl rfl (As := [.int (zI a1), .int (zI a2)]) rfl rfl (rm_law rfl (by omega) (by omega)) dL_law_1690 1693 rfl (k' := kq + 1) (n' := nq + 6) rfl rfl (fsI (fun q q1 q2 => (Or.inr (by omega)))) h_mo (fun rv H2 lo2 hM hF hpo => ?_)
  obtain ⟨rfl, hw_0⟩ := hpo
  have h_mo : PR E (x + 334) (modelW E (x + 334) (updC mo 0 (updZ (mo 0) 0 1))) H2 := hw_0
  replace hzl := Nat.le_trans hzl hF.1
  replace h_cm := h_cm.kept hF 1 rfl (fsd (by omega))
  replace h_co := h_co.kept hF 28 rfl (fsd (by omega))
  replace h_bf := h_bf.kept hF 28 rfl (fsd (by omega))
  replace h_sv := h_sv.kept hF 28 rfl (fsd (by omega))
  replace h_hi := h_hi.kept hF 2 rfl (fsd (by omega))
  replace h_hf := h_hf.kept hF (fsd (by omega))
  replace h_dk := h_dk.kept hF 3 rfl (fsd (by omega))
  replace h_se := h_se.kept hF 5 rfl (fsd (by omega))
  replace h_pg := h_pg.kept hF 1 rfl (fsd (by omega))
  replace h_sb := h_sb.kept hF 1 rfl (fsd (by omega))
  replace h_sa := h_sa.kept hF 1 rfl (fsd (by omega))
  replace h_pr := h_pr.kept hF 10 rfl (fsd (by omega))
  replace h_ln := h_ln.kept hF 1 rfl (fsd (by omega))
  replace h_la := h_la.kept hF 1 rfl (fsd (by omega))
  replace h_out := h_out.kept hF 1 rfl (fsd (by omega))
  replace h_outD := h_outD.kept hF 1 rfl (fsd (by omega))
  show V p l e room_1 s m args below meth cd Q 9 H2 lo2 (kq + 1) (nq + 6) 1693 [(6, .int (zI 1)), (5, .int (zI i)), (4, .ref (x + 340)), (3, .ref (x + 339)), (2, .ref (x + 334)), (1, .ref x), (0, .ref b)] [.int (zI 0)]
  refine v_istore X dL_law_1693 1695 rfl (by decide) (L' := [(7, .int (zI 0)), (6, .int (zI 1)), (5, .int (zI i)), (4, .ref (x + 340)), (3, .ref (x + 339)), (2, .ref (x + 334)), (1, .ref x), (0, .ref b)]) rfl ?_
  refine v_aload_n X dL_law_1695 1696 rfl 5 rfl ?_
  refine v_rdV X hM.C h_mo.1 (c_X10_thrown l E (x + 334) (updC mo 0 (updZ (mo 0) 0 1))) kvX10_thrown kiX10_thrown kl_L_196 rfl rfl (As := []) rfl rfl (rm_law0 rfl (by omega) (by omega)) dL_law_1696 1699 rfl ?_
  show V p l e room_1 s m args below meth cd Q 9 H2 lo2 (kq + 1) (nq + 6) 1699 [(7, .int (zI 0)), (6, .int (zI 1)), (5, .int (zI i)), (4, .ref (x + 340)), (3, .ref (x + 339)), (2, .ref (x + 334)), (1, .ref x), (0, .ref b)] [.int (zI 1)]
  refine v_iload X dL_law_1699 1701 rfl 1 rfl ?_
  refine v_icmp_eq X (by omega) (by omega) dL_law_1701 1704 1706 rfl (by decide) (fun c_3 => ?_) (fun c_3 => ?_)
  · skip
    refine v_iload X dL_law_1706 1708 rfl 1 rfl ?_
    refine v_if_ne X (by omega) dL_law_1708 1711 1723 rfl (by decide) (fun c_4 => ?_) (fun c_4 => ?_)
    · skip
      refine v_goto X dL_law_1723 3555 (by decide) ?_
      refine v_widen (k' := kq + 60) (n' := nq + 4000) (by omega) (by omega) ?_
      exact V_pick [2, 3, 4, 5, 6, 7] rfl (kk _ _ hM ⟨hzl, _, _, _, _, _, _, _, _, _, _, _, _, _, _, _, _, _, _, _, _, _, _, _, _, _, _, _, _, ⟨h_cm, h_co, h_bf, h_sv, h_hi, h_hf, h_dk, h_se, h_pg, h_sb, h_sa, h_pr, h_ln, h_la, h_mo, h_out, h_outD⟩, hP0.mo_0⟩)
    · skip
      exfalso; omega
  · skip
    exfalso; omega
set_option maxHeartbeats 4000000 in
set_option maxRecDepth 20000 in
theorem lo_questionCount_2 (hl : l.stackTraces = false) (X : CF p m cd code 9 s args RL) (hX : va_X b Lx xs s s.heap) (hbl : b < s.heap.size) (hLx : Lx ≤ 2560) (hM : MS E [] s H lo) (hk : kq + 60 ≤ 603072) (hn : nq + 4000 ≤ 7211113) (hx : s.heap.size ≤ x) (hzl : x + 341 ≤ H.size) {v : Nat} {N : Nat} {f : Int → Int} {nn : Int} {v2 : Nat} {N2 : Nat} {f2 : Int → Int} {n2 : Int} {co : Nat → Int → Int} {bf : Nat → Int → Int} {cv : Nat → Int → Int} {hc : Nat → Nat → Int → Int} {nx : Int} {sz : Int} {hs : Int} {er : Int} {fa : Int} {ss : Int} {dk : Nat → Int → Int} {se : Nat → Int → Int} {po : Int} {si : Int} {pr : Nat → Int → Int} {ml : Int} {ml2 : Int} {mo : Nat → Int → Int} {lg : Nat → Int64} {dg : Nat → UInt64} (hW : LawW E x v N f nn v2 N2 f2 n2 co bf cv hc nx sz hs er fa ss dk se po si pr ml ml2 mo lg dg H) (hP : LawP x v N f nn v2 N2 f2 n2 co cv hc nx sz hs er fa ss po si pr mo) (i0 : 0 ≤ i) (i1 : i + 5 ≤ (Lx : Int)) {a1 : Int} (ha1 : (xs (i + 1).toNat).toInt = a1) (ga1 : Rg a1) {a2 : Int} (ha2 : (xs (i + 2).toNat).toInt = a2) (ga2 : Rg a2) (q0 : 0 ≤ a1 ∧ a1 < co 0 0) (q1 : ¬ (0 ≤ a2 ∧ a2 < co 0 1)) (kk : ∀ (H1 : Heap) (lo1 : List Loc), MS E [] s H1 lo1 → LawI E x H1 → V p l e room_1 s m args below meth cd Q 9 H1 lo1 (kq + 60) (nq + 4000) 3555 [(5, .int (zI i)), (4, .ref (x + 340)), (3, .ref (x + 339)), (2, .ref (x + 334)), (1, .ref x), (0, .ref b)] []) : V p l e room_1 s m args below meth cd Q 9 H lo kq nq 1658 [(5, .int (zI i)), (4, .ref (x + 340)), (3, .ref (x + 339)), (2, .ref (x + 334)), (1, .ref x), (0, .ref b)] [] := by
  obtain ⟨h_cm, h_co, h_bf, h_sv, h_hi, h_hf, h_dk, h_se, h_pg, h_sb, h_sa, h_pr, h_ln, h_la, h_mo, h_out, h_outD⟩ := hW
  have hP0 := hP
  obtain ⟨⟨hD, hDv, hDh⟩, ⟨hRM, hch, hcs⟩, ⟨⟨n0, n1⟩, ⟨s0, s1⟩, hhs⟩, ⟨hm8, hnn, hAg, hNN, hnN, hf9⟩, ⟨T, hSB, hLT, hn38⟩, hPB, ⟨her, hfa, hss, ger, gfa, gss, gms⟩, ⟨gpo, gsi⟩, ⟨hv1, hv2, hvv⟩⟩ := hP
  have hO := hD.inv.ok
  have hI := hD.inv.ts
  have hSt := hD.inv.st
  have hS := hD.inv.sn
  have hR := hRM.1.2
  have hG := gp_inv hD
  have hb0 := hO.b0
  have hbw := hO.bw
  have hbf : ¬ Fr [] s.heap.size b := fun z => z.elim (fun q => q.elim) (fun q => by omega)
  refine v_aload_n X dL_law_1658 1659 rfl 4 rfl ?_
  refine v_aload_n X dL_law_1659 1660 rfl 5 rfl ?_
  refine v_iload X dL_law_1660 1662 rfl 0 rfl ?_
  refine v_iconst X dL_law_1662 1663 rfl ?_
  refine v_iadd X dL_law_1663 1664 rfl ?_
  refine v_scr X hM hX hbl hbf (by omega) (by omega) hLx ha1 dL_law_1664 1665 rfl ?_
  refine v_aload_n X dL_law_1665 1666 rfl 5 rfl ?_
  refine v_iload X dL_law_1666 1668 rfl 0 rfl ?_
  refine v_iconst X dL_law_1668 1669 rfl ?_
  refine v_iadd X dL_law_1669 1670 rfl ?_
  refine v_scr X hM hX hbl hbf (by omega) (by omega) hLx ha2 dL_law_1670 1671 rfl ?_
  refine v_aload_n X dL_law_1671 1672 rfl 2 rfl ?_
  refine v_mwS X hM (w_X9_questionCount_1_t l hl E x co hs er fa ss a1 a2 (x + 339) lg hO ga1 ga2 q0 q1) kwL_questionCount ksL_questionCount kl_L_263 (As := [.ref x, .int (zI a1), .int (zI a2), .ref (x + 339)]) rfl rfl (rm_lawW rfl (by omega) (by omega)) dL_law_1672 1675 rfl (k' := kq + 1) (n' := nq + 6) rfl rfl (fun q hq => hq.elim) ⟨h_cm, h_co, h_out⟩ (fun rv H1 lo1 hM hF hpo => ?_)
  subst hpo
  replace hzl := Nat.le_trans hzl hF.1
  replace h_cm := h_cm.kept hF 1 rfl (fun q _ _ h => h.elim)
  replace h_co := h_co.kept hF 28 rfl (fun q _ _ h => h.elim)
  replace h_bf := h_bf.kept hF 28 rfl (fun q _ _ h => h.elim)
  replace h_sv := h_sv.kept hF 28 rfl (fun q _ _ h => h.elim)
  replace h_hi := h_hi.kept hF 2 rfl (fun q _ _ h => h.elim)
  replace h_hf := h_hf.kept hF (fun q _ _ h => h.elim)
  replace h_dk := h_dk.kept hF 3 rfl (fun q _ _ h => h.elim)
  replace h_se := h_se.kept hF 5 rfl (fun q _ _ h => h.elim)
  replace h_pg := h_pg.kept hF 1 rfl (fun q _ _ h => h.elim)
  replace h_sb := h_sb.kept hF 1 rfl (fun q _ _ h => h.elim)
  replace h_sa := h_sa.kept hF 1 rfl (fun q _ _ h => h.elim)
  replace h_pr := h_pr.kept hF 10 rfl (fun q _ _ h => h.elim)
  replace h_ln := h_ln.kept hF 1 rfl (fun q _ _ h => h.elim)
  replace h_la := h_la.kept hF 1 rfl (fun q _ _ h => h.elim)
  replace h_mo := h_mo.kept hF 5 rfl (fun q _ _ h => h.elim)
  replace h_out := h_out.kept hF 1 rfl (fun q _ _ h => h.elim)
  replace h_outD := h_outD.kept hF 1 rfl (fun q _ _ h => h.elim)
  show V p l e room_1 s m args below meth cd Q 9 H1 lo1 (kq + 1) (nq + 6) 1675 [(5, .int (zI i)), (4, .ref (x + 340)), (3, .ref (x + 339)), (2, .ref (x + 334)), (1, .ref x), (0, .ref b)] [.int (zI 1)]
  refine v_istore X dL_law_1675 1677 rfl (by decide) (L' := [(6, .int (zI 1)), (5, .int (zI i)), (4, .ref (x + 340)), (3, .ref (x + 339)), (2, .ref (x + 334)), (1, .ref x), (0, .ref b)]) rfl ?_
  refine v_aload_n X dL_law_1677 1678 rfl 4 rfl ?_
  refine v_aload_n X dL_law_1678 1679 rfl 6 rfl ?_
  refine v_iload X dL_law_1679 1681 rfl 1 rfl ?_
  refine v_iconst X dL_law_1681 1682 rfl ?_
  refine v_iadd X dL_law_1682 1683 rfl ?_
  refine v_scr X hM hX hbl hbf (by omega) (by omega) hLx ha1 dL_law_1683 1684 rfl ?_
  refine v_aload_n X dL_law_1684 1685 rfl 6 rfl ?_
  refine v_iload X dL_law_1685 1687 rfl 1 rfl ?_
  refine v_iconst X dL_law_1687 1688 rfl ?_
  refine v_iadd X dL_law_1688 1689 rfl ?_
  refine v_scr X hM hX hbl hbf (by omega) (by omega) hLx ha2 dL_law_1689 1690 rfl ?_
  refine v_muV X hM (h_mo.1) (c_X10_questionCount_1 l E (x + 334) mo co a1 a2 hO hR hI ga1 ga2 q0 q1) kvX10_questionCount kiX10_questionCount kl_L_265 (q0 := 0) rfl rfl (As := [.int (zI a1), .int (zI a2)]) rfl rfl (rm_law rfl (by omega) (by omega)) dL_law_1690 1693 rfl (k' := kq + 1) (n' := nq + 6) rfl rfl (fsI (fun q q1 q2 => (Or.inr (by omega)))) h_mo (fun rv H2 lo2 hM hF hpo => ?_)
  obtain ⟨rfl, hw_0⟩ := hpo
  have h_mo : PR E (x + 334) (modelW E (x + 334) (updC mo 0 (updZ (mo 0) 0 1))) H2 := hw_0
  replace hzl := Nat.le_trans hzl hF.1
  replace h_cm := h_cm.kept hF 1 rfl (fsd (by omega))
  replace h_co := h_co.kept hF 28 rfl (fsd (by omega))
  replace h_bf := h_bf.kept hF 28 rfl (fsd (by omega))
  replace h_sv := h_sv.kept hF 28 rfl (fsd (by omega))
  replace h_hi := h_hi.kept hF 2 rfl (fsd (by omega))
  replace h_hf := h_hf.kept hF (fsd (by omega))
  replace h_dk := h_dk.kept hF 3 rfl (fsd (by omega))
  replace h_se := h_se.kept hF 5 rfl (fsd (by omega))
  replace h_pg := h_pg.kept hF 1 rfl (fsd (by omega))
  replace h_sb := h_sb.kept hF 1 rfl (fsd (by omega))
  replace h_sa := h_sa.kept hF 1 rfl (fsd (by omega))
  replace h_pr := h_pr.kept hF 10 rfl (fsd (by omega))
  replace h_ln := h_ln.kept hF 1 rfl (fsd (by omega))
  replace h_la := h_la.kept hF 1 rfl (fsd (by omega))
  replace h_out := h_out.kept hF 1 rfl (fsd (by omega))
  replace h_outD := h_outD.kept hF 1 rfl (fsd (by omega))
  show V p l e room_1 s m args below meth cd Q 9 H2 lo2 (kq + 1) (nq + 6) 1693 [(6, .int (zI 1)), (5, .int (zI i)), (4, .ref (x + 340)), (3, .ref (x + 339)), (2, .ref (x + 334)), (1, .ref x), (0, .ref b)] [.int (zI 0)]
  refine v_istore X dL_law_1693 1695 rfl (by decide) (L' := [(7, .int (zI 0)), (6, .int (zI 1)), (5, .int (zI i)), (4, .ref (x + 340)), (3, .ref (x + 339)), (2, .ref (x + 334)), (1, .ref x), (0, .ref b)]) rfl ?_
  refine v_aload_n X dL_law_1695 1696 rfl 5 rfl ?_
  refine v_rdV X hM.C h_mo.1 (c_X10_thrown l E (x + 334) (updC mo 0 (updZ (mo 0) 0 1))) kvX10_thrown kiX10_thrown kl_L_196 rfl rfl (As := []) rfl rfl (rm_law0 rfl (by omega) (by omega)) dL_law_1696 1699 rfl ?_
  show V p l e room_1 s m args below meth cd Q 9 H2 lo2 (kq + 1) (nq + 6) 1699 [(7, .int (zI 0)), (6, .int (zI 1)), (5, .int (zI i)), (4, .ref (x + 340)), (3, .ref (x + 339)), (2, .ref (x + 334)), (1, .ref x), (0, .ref b)] [.int (zI 1)]
  refine v_iload X dL_law_1699 1701 rfl 1 rfl ?_
  refine v_icmp_eq X (by omega) (by omega) dL_law_1701 1704 1706 rfl (by decide) (fun c_3 => ?_) (fun c_3 => ?_)
  · skip
    refine v_iload X dL_law_1706 1708 rfl 1 rfl ?_
    refine v_if_ne X (by omega) dL_law_1708 1711 1723 rfl (by decide) (fun c_4 => ?_) (fun c_4 => ?_)
    · skip
      refine v_goto X dL_law_1723 3555 (by decide) ?_
      refine v_widen (k' := kq + 60) (n' := nq + 4000) (by omega) (by omega) ?_
      exact V_pick [2, 3, 4, 5, 6, 7] rfl (kk _ _ hM ⟨hzl, _, _, _, _, _, _, _, _, _, _, _, _, _, _, _, _, _, _, _, _, _, _, _, _, _, _, _, _, ⟨h_cm, h_co, h_bf, h_sv, h_hi, h_hf, h_dk, h_se, h_pg, h_sb, h_sa, h_pr, h_ln, h_la, h_mo, h_out, h_outD⟩, hP0.mo_0⟩)
    · skip
      exfalso; omega
  · skip
    exfalso; omega
set_option maxHeartbeats 4000000 in
set_option maxRecDepth 20000 in
theorem lo_questionCount_3 (hl : l.stackTraces = false) (X : CF p m cd code 9 s args RL) (hX : va_X b Lx xs s s.heap) (hbl : b < s.heap.size) (hLx : Lx ≤ 2560) (hM : MS E [] s H lo) (hk : kq + 60 ≤ 603072) (hn : nq + 4000 ≤ 7211113) (hx : s.heap.size ≤ x) (hzl : x + 341 ≤ H.size) {v : Nat} {N : Nat} {f : Int → Int} {nn : Int} {v2 : Nat} {N2 : Nat} {f2 : Int → Int} {n2 : Int} {co : Nat → Int → Int} {bf : Nat → Int → Int} {cv : Nat → Int → Int} {hc : Nat → Nat → Int → Int} {nx : Int} {sz : Int} {hs : Int} {er : Int} {fa : Int} {ss : Int} {dk : Nat → Int → Int} {se : Nat → Int → Int} {po : Int} {si : Int} {pr : Nat → Int → Int} {ml : Int} {ml2 : Int} {mo : Nat → Int → Int} {lg : Nat → Int64} {dg : Nat → UInt64} (hW : LawW E x v N f nn v2 N2 f2 n2 co bf cv hc nx sz hs er fa ss dk se po si pr ml ml2 mo lg dg H) (hP : LawP x v N f nn v2 N2 f2 n2 co cv hc nx sz hs er fa ss po si pr mo) (i0 : 0 ≤ i) (i1 : i + 5 ≤ (Lx : Int)) {a1 : Int} (ha1 : (xs (i + 1).toNat).toInt = a1) (ga1 : Rg a1) {a2 : Int} (ha2 : (xs (i + 2).toNat).toInt = a2) (ga2 : Rg a2) (q0 : 0 ≤ a1 ∧ a1 < co 0 0) (q1 : 0 ≤ a2 ∧ a2 < co 0 1) (q2 : ¬ (0 < co 9 (a1 * 8 + a2))) (kk : ∀ (H1 : Heap) (lo1 : List Loc), MS E [] s H1 lo1 → LawI E x H1 → V p l e room_1 s m args below meth cd Q 9 H1 lo1 (kq + 60) (nq + 4000) 3555 [(5, .int (zI i)), (4, .ref (x + 340)), (3, .ref (x + 339)), (2, .ref (x + 334)), (1, .ref x), (0, .ref b)] []) : V p l e room_1 s m args below meth cd Q 9 H lo kq nq 1658 [(5, .int (zI i)), (4, .ref (x + 340)), (3, .ref (x + 339)), (2, .ref (x + 334)), (1, .ref x), (0, .ref b)] [] := by
  obtain ⟨h_cm, h_co, h_bf, h_sv, h_hi, h_hf, h_dk, h_se, h_pg, h_sb, h_sa, h_pr, h_ln, h_la, h_mo, h_out, h_outD⟩ := hW
  have hP0 := hP
  obtain ⟨⟨hD, hDv, hDh⟩, ⟨hRM, hch, hcs⟩, ⟨⟨n0, n1⟩, ⟨s0, s1⟩, hhs⟩, ⟨hm8, hnn, hAg, hNN, hnN, hf9⟩, ⟨T, hSB, hLT, hn38⟩, hPB, ⟨her, hfa, hss, ger, gfa, gss, gms⟩, ⟨gpo, gsi⟩, ⟨hv1, hv2, hvv⟩⟩ := hP
  have hO := hD.inv.ok
  have hI := hD.inv.ts
  have hSt := hD.inv.st
  have hS := hD.inv.sn
  have hR := hRM.1.2
  have hG := gp_inv hD
  have hb0 := hO.b0
  have hbw := hO.bw
  have hbf : ¬ Fr [] s.heap.size b := fun z => z.elim (fun q => q.elim) (fun q => by omega)
  refine v_aload_n X dL_law_1658 1659 rfl 4 rfl ?_
  refine v_aload_n X dL_law_1659 1660 rfl 5 rfl ?_
  refine v_iload X dL_law_1660 1662 rfl 0 rfl ?_
  refine v_iconst X dL_law_1662 1663 rfl ?_
  refine v_iadd X dL_law_1663 1664 rfl ?_
  refine v_scr X hM hX hbl hbf (by omega) (by omega) hLx ha1 dL_law_1664 1665 rfl ?_
  refine v_aload_n X dL_law_1665 1666 rfl 5 rfl ?_
  refine v_iload X dL_law_1666 1668 rfl 0 rfl ?_
  refine v_iconst X dL_law_1668 1669 rfl ?_
  refine v_iadd X dL_law_1669 1670 rfl ?_
  refine v_scr X hM hX hbl hbf (by omega) (by omega) hLx ha2 dL_law_1670 1671 rfl ?_
  refine v_aload_n X dL_law_1671 1672 rfl 2 rfl ?_
  refine v_mwS X hM (w_X9_questionCount_2_t l hl E x co hs er fa ss a1 a2 (x + 339) lg hO ga1 ga2 q0 q1 q2) kwL_questionCount ksL_questionCount kl_L_263 (As := [.ref x, .int (zI a1), .int (zI a2), .ref (x + 339)]) rfl rfl (rm_lawW rfl (by omega) (by omega)) dL_law_1672 1675 rfl (k' := kq + 1) (n' := nq + 6) rfl rfl (fun q hq => hq.elim) ⟨h_cm, h_co, h_out⟩ (fun rv H1 lo1 hM hF hpo => ?_)
  subst hpo
  replace hzl := Nat.le_trans hzl hF.1
  replace h_cm := h_cm.kept hF 1 rfl (fun q _ _ h => h.elim)
  replace h_co := h_co.kept hF 28 rfl (fun q _ _ h => h.elim)
  replace h_bf := h_bf.kept hF 28 rfl (fun q _ _ h => h.elim)
  replace h_sv := h_sv.kept hF 28 rfl (fun q _ _ h => h.elim)
  replace h_hi := h_hi.kept hF 2 rfl (fun q _ _ h => h.elim)
  replace h_hf := h_hf.kept hF (fun q _ _ h => h.elim)
  replace h_dk := h_dk.kept hF 3 rfl (fun q _ _ h => h.elim)
  replace h_se := h_se.kept hF 5 rfl (fun q _ _ h => h.elim)
  replace h_pg := h_pg.kept hF 1 rfl (fun q _ _ h => h.elim)
  replace h_sb := h_sb.kept hF 1 rfl (fun q _ _ h => h.elim)
  replace h_sa := h_sa.kept hF 1 rfl (fun q _ _ h => h.elim)
  replace h_pr := h_pr.kept hF 10 rfl (fun q _ _ h => h.elim)
  replace h_ln := h_ln.kept hF 1 rfl (fun q _ _ h => h.elim)
  replace h_la := h_la.kept hF 1 rfl (fun q _ _ h => h.elim)
  replace h_mo := h_mo.kept hF 5 rfl (fun q _ _ h => h.elim)
  replace h_out := h_out.kept hF 1 rfl (fun q _ _ h => h.elim)
  replace h_outD := h_outD.kept hF 1 rfl (fun q _ _ h => h.elim)
  show V p l e room_1 s m args below meth cd Q 9 H1 lo1 (kq + 1) (nq + 6) 1675 [(5, .int (zI i)), (4, .ref (x + 340)), (3, .ref (x + 339)), (2, .ref (x + 334)), (1, .ref x), (0, .ref b)] [.int (zI 2)]
  refine v_istore X dL_law_1675 1677 rfl (by decide) (L' := [(6, .int (zI 2)), (5, .int (zI i)), (4, .ref (x + 340)), (3, .ref (x + 339)), (2, .ref (x + 334)), (1, .ref x), (0, .ref b)]) rfl ?_
  refine v_aload_n X dL_law_1677 1678 rfl 4 rfl ?_
  refine v_aload_n X dL_law_1678 1679 rfl 6 rfl ?_
  refine v_iload X dL_law_1679 1681 rfl 1 rfl ?_
  refine v_iconst X dL_law_1681 1682 rfl ?_
  refine v_iadd X dL_law_1682 1683 rfl ?_
  refine v_scr X hM hX hbl hbf (by omega) (by omega) hLx ha1 dL_law_1683 1684 rfl ?_
  refine v_aload_n X dL_law_1684 1685 rfl 6 rfl ?_
  refine v_iload X dL_law_1685 1687 rfl 1 rfl ?_
  refine v_iconst X dL_law_1687 1688 rfl ?_
  refine v_iadd X dL_law_1688 1689 rfl ?_
  refine v_scr X hM hX hbl hbf (by omega) (by omega) hLx ha2 dL_law_1689 1690 rfl ?_
  refine v_muV X hM (h_mo.1) (c_X10_questionCount_2 l E (x + 334) mo co a1 a2 hO hR hI ga1 ga2 q0 q1 q2) kvX10_questionCount kiX10_questionCount kl_L_265 (q0 := 0) rfl rfl (As := [.int (zI a1), .int (zI a2)]) rfl rfl (rm_law rfl (by omega) (by omega)) dL_law_1690 1693 rfl (k' := kq + 1) (n' := nq + 6) rfl rfl (fsI (fun q q1 q2 => (Or.inr (by omega)))) h_mo (fun rv H2 lo2 hM hF hpo => ?_)
  obtain ⟨rfl, hw_0⟩ := hpo
  have h_mo : PR E (x + 334) (modelW E (x + 334) (updC mo 0 (updZ (mo 0) 0 2))) H2 := hw_0
  replace hzl := Nat.le_trans hzl hF.1
  replace h_cm := h_cm.kept hF 1 rfl (fsd (by omega))
  replace h_co := h_co.kept hF 28 rfl (fsd (by omega))
  replace h_bf := h_bf.kept hF 28 rfl (fsd (by omega))
  replace h_sv := h_sv.kept hF 28 rfl (fsd (by omega))
  replace h_hi := h_hi.kept hF 2 rfl (fsd (by omega))
  replace h_hf := h_hf.kept hF (fsd (by omega))
  replace h_dk := h_dk.kept hF 3 rfl (fsd (by omega))
  replace h_se := h_se.kept hF 5 rfl (fsd (by omega))
  replace h_pg := h_pg.kept hF 1 rfl (fsd (by omega))
  replace h_sb := h_sb.kept hF 1 rfl (fsd (by omega))
  replace h_sa := h_sa.kept hF 1 rfl (fsd (by omega))
  replace h_pr := h_pr.kept hF 10 rfl (fsd (by omega))
  replace h_ln := h_ln.kept hF 1 rfl (fsd (by omega))
  replace h_la := h_la.kept hF 1 rfl (fsd (by omega))
  replace h_out := h_out.kept hF 1 rfl (fsd (by omega))
  replace h_outD := h_outD.kept hF 1 rfl (fsd (by omega))
  show V p l e room_1 s m args below meth cd Q 9 H2 lo2 (kq + 1) (nq + 6) 1693 [(6, .int (zI 2)), (5, .int (zI i)), (4, .ref (x + 340)), (3, .ref (x + 339)), (2, .ref (x + 334)), (1, .ref x), (0, .ref b)] [.int (zI 0)]
  refine v_istore X dL_law_1693 1695 rfl (by decide) (L' := [(7, .int (zI 0)), (6, .int (zI 2)), (5, .int (zI i)), (4, .ref (x + 340)), (3, .ref (x + 339)), (2, .ref (x + 334)), (1, .ref x), (0, .ref b)]) rfl ?_
  refine v_aload_n X dL_law_1695 1696 rfl 5 rfl ?_
  refine v_rdV X hM.C h_mo.1 (c_X10_thrown l E (x + 334) (updC mo 0 (updZ (mo 0) 0 2))) kvX10_thrown kiX10_thrown kl_L_196 rfl rfl (As := []) rfl rfl (rm_law0 rfl (by omega) (by omega)) dL_law_1696 1699 rfl ?_
  show V p l e room_1 s m args below meth cd Q 9 H2 lo2 (kq + 1) (nq + 6) 1699 [(7, .int (zI 0)), (6, .int (zI 2)), (5, .int (zI i)), (4, .ref (x + 340)), (3, .ref (x + 339)), (2, .ref (x + 334)), (1, .ref x), (0, .ref b)] [.int (zI 2)]
  refine v_iload X dL_law_1699 1701 rfl 1 rfl ?_
  refine v_icmp_eq X (by omega) (by omega) dL_law_1701 1704 1706 rfl (by decide) (fun c_3 => ?_) (fun c_3 => ?_)
  · skip
    refine v_iload X dL_law_1706 1708 rfl 1 rfl ?_
    refine v_if_ne X (by omega) dL_law_1708 1711 1723 rfl (by decide) (fun c_4 => ?_) (fun c_4 => ?_)
    · skip
      refine v_goto X dL_law_1723 3555 (by decide) ?_
      refine v_widen (k' := kq + 60) (n' := nq + 4000) (by omega) (by omega) ?_
      exact V_pick [2, 3, 4, 5, 6, 7] rfl (kk _ _ hM ⟨hzl, _, _, _, _, _, _, _, _, _, _, _, _, _, _, _, _, _, _, _, _, _, _, _, _, _, _, _, _, ⟨h_cm, h_co, h_bf, h_sv, h_hi, h_hf, h_dk, h_se, h_pg, h_sb, h_sa, h_pr, h_ln, h_la, h_mo, h_out, h_outD⟩, hP0.mo_0⟩)
    · skip
      exfalso; omega
  · skip
    exfalso; omega
set_option maxHeartbeats 4000000 in
set_option maxRecDepth 20000 in
theorem lo_credibility (hl : l.stackTraces = false) (X : CF p m cd code 9 s args RL) (hX : va_X b Lx xs s s.heap) (hbl : b < s.heap.size) (hLx : Lx ≤ 2560) (hM : MS E [] s H lo) (hk : kq + 60 ≤ 603072) (hn : nq + 4000 ≤ 7211113) (hx : s.heap.size ≤ x) (hzl : x + 341 ≤ H.size) {v : Nat} {N : Nat} {f : Int → Int} {nn : Int} {v2 : Nat} {N2 : Nat} {f2 : Int → Int} {n2 : Int} {co : Nat → Int → Int} {bf : Nat → Int → Int} {cv : Nat → Int → Int} {hc : Nat → Nat → Int → Int} {nx : Int} {sz : Int} {hs : Int} {er : Int} {fa : Int} {ss : Int} {dk : Nat → Int → Int} {se : Nat → Int → Int} {po : Int} {si : Int} {pr : Nat → Int → Int} {ml : Int} {ml2 : Int} {mo : Nat → Int → Int} {lg : Nat → Int64} {dg : Nat → UInt64} (hW : LawW E x v N f nn v2 N2 f2 n2 co bf cv hc nx sz hs er fa ss dk se po si pr ml ml2 mo lg dg H) (hP : LawP x v N f nn v2 N2 f2 n2 co cv hc nx sz hs er fa ss po si pr mo) (i0 : 0 ≤ i) (i1 : i + 5 ≤ (Lx : Int)) {a1 : Int} (ha1 : (xs (i + 1).toNat).toInt = a1) (ga1 : Rg a1) (q0 : 0 ≤ a1 ∧ a1 < co 0 1) (kk : ∀ (H1 : Heap) (lo1 : List Loc), MS E [] s H1 lo1 → LawI E x H1 → V p l e room_1 s m args below meth cd Q 9 H1 lo1 (kq + 60) (nq + 4000) 3555 [(5, .int (zI i)), (4, .ref (x + 340)), (3, .ref (x + 339)), (2, .ref (x + 334)), (1, .ref x), (0, .ref b)] []) : V p l e room_1 s m args below meth cd Q 9 H lo kq nq 1739 [(5, .int (zI i)), (4, .ref (x + 340)), (3, .ref (x + 339)), (2, .ref (x + 334)), (1, .ref x), (0, .ref b)] [] := by
  obtain ⟨h_cm, h_co, h_bf, h_sv, h_hi, h_hf, h_dk, h_se, h_pg, h_sb, h_sa, h_pr, h_ln, h_la, h_mo, h_out, h_outD⟩ := hW
  have hP0 := hP
  obtain ⟨⟨hD, hDv, hDh⟩, ⟨hRM, hch, hcs⟩, ⟨⟨n0, n1⟩, ⟨s0, s1⟩, hhs⟩, ⟨hm8, hnn, hAg, hNN, hnN, hf9⟩, ⟨T, hSB, hLT, hn38⟩, hPB, ⟨her, hfa, hss, ger, gfa, gss, gms⟩, ⟨gpo, gsi⟩, ⟨hv1, hv2, hvv⟩⟩ := hP
  have hO := hD.inv.ok
  have hI := hD.inv.ts
  have hSt := hD.inv.st
  have hS := hD.inv.sn
  have hR := hRM.1.2
  have hG := gp_inv hD
  have hb0 := hO.b0
  have hbw := hO.bw
  have hbf : ¬ Fr [] s.heap.size b := fun z => z.elim (fun q => q.elim) (fun q => by omega)
  refine v_aload_n X dL_law_1739 1740 rfl 4 rfl ?_
  refine v_aload_n X dL_law_1740 1741 rfl 5 rfl ?_
  refine v_iload X dL_law_1741 1743 rfl 0 rfl ?_
  refine v_iconst X dL_law_1743 1744 rfl ?_
  refine v_iadd X dL_law_1744 1745 rfl ?_
  refine v_scr X hM hX hbl hbf (by omega) (by omega) hLx ha1 dL_law_1745 1746 rfl ?_
  refine v_aload_n X dL_law_1746 1747 rfl 2 rfl ?_
  refine v_mwS X hM (w_X9_credibility l hl E x co hs er fa ss a1 (x + 339) lg hO ga1 q0 (by omega) (by omega)) kwL_credibility ksL_credibility kl_L_270 (As := [.ref x, .int (zI a1), .ref (x + 339)]) rfl rfl (rm_lawW rfl (by omega) (by omega)) dL_law_1747 1750 rfl (k' := kq + 1) (n' := nq + 6) rfl rfl (fsI (fun q q1 q2 => (Or.inr (by omega)))) ⟨h_cm, h_co, h_out⟩ (fun rv H1 lo1 hM hF hpo => ?_)
  obtain ⟨rfl, hw_0⟩ := hpo
  have h_out : PR E (x + 339) [(x + 339, .inl (E 102 4, 1, .inr (.inl (fun _ => zL (co 11 a1)))))] H1 := hw_0
  replace hzl := Nat.le_trans hzl hF.1
  replace h_cm := h_cm.kept hF 1 rfl (fsd (by omega))
  replace h_co := h_co.kept hF 28 rfl (fsd (by omega))
  replace h_bf := h_bf.kept hF 28 rfl (fsd (by omega))
  replace h_sv := h_sv.kept hF 28 rfl (fsd (by omega))
  replace h_hi := h_hi.kept hF 2 rfl (fsd (by omega))
  replace h_hf := h_hf.kept hF (fsd (by omega))
  replace h_dk := h_dk.kept hF 3 rfl (fsd (by omega))
  replace h_se := h_se.kept hF 5 rfl (fsd (by omega))
  replace h_pg := h_pg.kept hF 1 rfl (fsd (by omega))
  replace h_sb := h_sb.kept hF 1 rfl (fsd (by omega))
  replace h_sa := h_sa.kept hF 1 rfl (fsd (by omega))
  replace h_pr := h_pr.kept hF 10 rfl (fsd (by omega))
  replace h_ln := h_ln.kept hF 1 rfl (fsd (by omega))
  replace h_la := h_la.kept hF 1 rfl (fsd (by omega))
  replace h_mo := h_mo.kept hF 5 rfl (fsd (by omega))
  replace h_outD := h_outD.kept hF 1 rfl (fsd (by omega))
  show V p l e room_1 s m args below meth cd Q 9 H1 lo1 (kq + 1) (nq + 6) 1750 [(5, .int (zI i)), (4, .ref (x + 340)), (3, .ref (x + 339)), (2, .ref (x + 334)), (1, .ref x), (0, .ref b)] [.int (zI 0)]
  refine v_istore X dL_law_1750 1752 rfl (by decide) (L' := [(6, .int (zI 0)), (5, .int (zI i)), (4, .ref (x + 340)), (3, .ref (x + 339)), (2, .ref (x + 334)), (1, .ref x), (0, .ref b)]) rfl ?_
  refine v_aload_n X dL_law_1752 1753 rfl 4 rfl ?_
  refine v_aload_n X dL_law_1753 1754 rfl 6 rfl ?_
  refine v_iload X dL_law_1754 1756 rfl 1 rfl ?_
  refine v_iconst X dL_law_1756 1757 rfl ?_
  refine v_iadd X dL_law_1757 1758 rfl ?_
  refine v_scr X hM hX hbl hbf (by omega) (by omega) hLx ha1 dL_law_1758 1759 rfl ?_
  refine v_muV X hM (h_mo.1) (c_X10_credibility l E (x + 334) mo co a1 hO hR ga1 q0) kvX10_credibility kiX10_credibility kl_L_272 (q0 := 0) rfl rfl (As := [.int (zI a1)]) rfl rfl (rm_law rfl (by omega) (by omega)) dL_law_1759 1762 rfl (k' := kq + 1) (n' := nq + 6) rfl rfl (fsI (fun q q1 q2 => (Or.inr (by omega)))) h_mo (fun rv H2 lo2 hM hF hpo => ?_)
  obtain ⟨rfl, hw_0⟩ := hpo
  have h_mo : PR E (x + 334) (modelW E (x + 334) (updC mo 0 (updZ (mo 0) 0 0))) H2 := hw_0
  replace hzl := Nat.le_trans hzl hF.1
  replace h_cm := h_cm.kept hF 1 rfl (fsd (by omega))
  replace h_co := h_co.kept hF 28 rfl (fsd (by omega))
  replace h_bf := h_bf.kept hF 28 rfl (fsd (by omega))
  replace h_sv := h_sv.kept hF 28 rfl (fsd (by omega))
  replace h_hi := h_hi.kept hF 2 rfl (fsd (by omega))
  replace h_hf := h_hf.kept hF (fsd (by omega))
  replace h_dk := h_dk.kept hF 3 rfl (fsd (by omega))
  replace h_se := h_se.kept hF 5 rfl (fsd (by omega))
  replace h_pg := h_pg.kept hF 1 rfl (fsd (by omega))
  replace h_sb := h_sb.kept hF 1 rfl (fsd (by omega))
  replace h_sa := h_sa.kept hF 1 rfl (fsd (by omega))
  replace h_pr := h_pr.kept hF 10 rfl (fsd (by omega))
  replace h_ln := h_ln.kept hF 1 rfl (fsd (by omega))
  replace h_la := h_la.kept hF 1 rfl (fsd (by omega))
  replace h_out := h_out.kept hF 1 rfl (fsd (by omega))
  replace h_outD := h_outD.kept hF 1 rfl (fsd (by omega))
  show V p l e room_1 s m args below meth cd Q 9 H2 lo2 (kq + 1) (nq + 6) 1762 [(6, .int (zI 0)), (5, .int (zI i)), (4, .ref (x + 340)), (3, .ref (x + 339)), (2, .ref (x + 334)), (1, .ref x), (0, .ref b)] [.int (zI (co 11 a1))]
  refine v_istore X dL_law_1762 1764 rfl (by decide) (L' := [(7, .int (zI (co 11 a1))), (6, .int (zI 0)), (5, .int (zI i)), (4, .ref (x + 340)), (3, .ref (x + 339)), (2, .ref (x + 334)), (1, .ref x), (0, .ref b)]) rfl ?_
  refine v_aload_n X dL_law_1764 1765 rfl 5 rfl ?_
  refine v_rdV X hM.C h_mo.1 (c_X10_thrown l E (x + 334) (updC mo 0 (updZ (mo 0) 0 0))) kvX10_thrown kiX10_thrown kl_L_196 rfl rfl (As := []) rfl rfl (rm_law0 rfl (by omega) (by omega)) dL_law_1765 1768 rfl ?_
  show V p l e room_1 s m args below meth cd Q 9 H2 lo2 (kq + 1) (nq + 6) 1768 [(7, .int (zI (co 11 a1))), (6, .int (zI 0)), (5, .int (zI i)), (4, .ref (x + 340)), (3, .ref (x + 339)), (2, .ref (x + 334)), (1, .ref x), (0, .ref b)] [.int (zI 0)]
  refine v_iload X dL_law_1768 1770 rfl 1 rfl ?_
  refine v_icmp_eq X (by omega) (by omega) dL_law_1770 1773 1775 rfl (by decide) (fun c_3 => ?_) (fun c_3 => ?_)
  · skip
    refine v_iload X dL_law_1775 1777 rfl 1 rfl ?_
    refine v_if_ne X (by omega) dL_law_1777 1780 1792 rfl (by decide) (fun c_4 => ?_) (fun c_4 => ?_)
    · skip
      exfalso; omega
    · skip
      refine v_aload_n X dL_law_1780 1781 rfl 4 rfl ?_
      refine v_iconst X dL_law_1781 1782 rfl ?_
      refine v_lald X hM.C h_out.1 0 rfl dL_law_1782 1783 rfl ?_
      show V p l e room_1 s m args below meth cd Q 9 H2 lo2 (kq + 1) (nq + 6) 1783 [(7, .int (zI (co 11 a1))), (6, .int (zI 0)), (5, .int (zI i)), (4, .ref (x + 340)), (3, .ref (x + 339)), (2, .ref (x + 334)), (1, .ref x), (0, .ref b)] [.long (zL (co 11 a1))]
      refine v_iload X dL_law_1783 1785 rfl 0 rfl ?_
      refine v_i2l X dL_law_1785 1786 rfl ?_
      refine v_lcmp0 X dL_law_1786 1787 rfl ?_
      refine v_if_eq X (by omega) dL_law_1787 1790 1792 rfl (by decide) (fun c_5 => ?_) (fun c_5 => ?_)
      · skip
        refine v_goto X dL_law_1792 3555 (by decide) ?_
        refine v_widen (k' := kq + 60) (n' := nq + 4000) (by omega) (by omega) ?_
        exact V_pick [2, 3, 4, 5, 6, 7] rfl (kk _ _ hM ⟨hzl, _, _, _, _, _, _, _, _, _, _, _, _, _, _, _, _, _, _, _, _, _, _, _, _, _, _, _, _, ⟨h_cm, h_co, h_bf, h_sv, h_hi, h_hf, h_dk, h_se, h_pg, h_sb, h_sa, h_pr, h_ln, h_la, h_mo, h_out, h_outD⟩, hP0.mo_0⟩)
      · skip
        exfalso; omega
  · skip
    exfalso; omega
set_option maxHeartbeats 4000000 in
set_option maxRecDepth 20000 in
theorem lo_credibility_1 (hl : l.stackTraces = false) (X : CF p m cd code 9 s args RL) (hX : va_X b Lx xs s s.heap) (hbl : b < s.heap.size) (hLx : Lx ≤ 2560) (hM : MS E [] s H lo) (hk : kq + 60 ≤ 603072) (hn : nq + 4000 ≤ 7211113) (hx : s.heap.size ≤ x) (hzl : x + 341 ≤ H.size) {v : Nat} {N : Nat} {f : Int → Int} {nn : Int} {v2 : Nat} {N2 : Nat} {f2 : Int → Int} {n2 : Int} {co : Nat → Int → Int} {bf : Nat → Int → Int} {cv : Nat → Int → Int} {hc : Nat → Nat → Int → Int} {nx : Int} {sz : Int} {hs : Int} {er : Int} {fa : Int} {ss : Int} {dk : Nat → Int → Int} {se : Nat → Int → Int} {po : Int} {si : Int} {pr : Nat → Int → Int} {ml : Int} {ml2 : Int} {mo : Nat → Int → Int} {lg : Nat → Int64} {dg : Nat → UInt64} (hW : LawW E x v N f nn v2 N2 f2 n2 co bf cv hc nx sz hs er fa ss dk se po si pr ml ml2 mo lg dg H) (hP : LawP x v N f nn v2 N2 f2 n2 co cv hc nx sz hs er fa ss po si pr mo) (i0 : 0 ≤ i) (i1 : i + 5 ≤ (Lx : Int)) {a1 : Int} (ha1 : (xs (i + 1).toNat).toInt = a1) (ga1 : Rg a1) (q0 : ¬ (0 ≤ a1 ∧ a1 < co 0 1)) (kk : ∀ (H1 : Heap) (lo1 : List Loc), MS E [] s H1 lo1 → LawI E x H1 → V p l e room_1 s m args below meth cd Q 9 H1 lo1 (kq + 60) (nq + 4000) 3555 [(5, .int (zI i)), (4, .ref (x + 340)), (3, .ref (x + 339)), (2, .ref (x + 334)), (1, .ref x), (0, .ref b)] []) : V p l e room_1 s m args below meth cd Q 9 H lo kq nq 1739 [(5, .int (zI i)), (4, .ref (x + 340)), (3, .ref (x + 339)), (2, .ref (x + 334)), (1, .ref x), (0, .ref b)] [] := by
  obtain ⟨h_cm, h_co, h_bf, h_sv, h_hi, h_hf, h_dk, h_se, h_pg, h_sb, h_sa, h_pr, h_ln, h_la, h_mo, h_out, h_outD⟩ := hW
  have hP0 := hP
  obtain ⟨⟨hD, hDv, hDh⟩, ⟨hRM, hch, hcs⟩, ⟨⟨n0, n1⟩, ⟨s0, s1⟩, hhs⟩, ⟨hm8, hnn, hAg, hNN, hnN, hf9⟩, ⟨T, hSB, hLT, hn38⟩, hPB, ⟨her, hfa, hss, ger, gfa, gss, gms⟩, ⟨gpo, gsi⟩, ⟨hv1, hv2, hvv⟩⟩ := hP
  have hO := hD.inv.ok
  have hI := hD.inv.ts
  have hSt := hD.inv.st
  have hS := hD.inv.sn
  have hR := hRM.1.2
  have hG := gp_inv hD
  have hb0 := hO.b0
  have hbw := hO.bw
  have hbf : ¬ Fr [] s.heap.size b := fun z => z.elim (fun q => q.elim) (fun q => by omega)
  refine v_aload_n X dL_law_1739 1740 rfl 4 rfl ?_
  refine v_aload_n X dL_law_1740 1741 rfl 5 rfl ?_
  refine v_iload X dL_law_1741 1743 rfl 0 rfl ?_
  refine v_iconst X dL_law_1743 1744 rfl ?_
  refine v_iadd X dL_law_1744 1745 rfl ?_
  refine v_scr X hM hX hbl hbf (by omega) (by omega) hLx ha1 dL_law_1745 1746 rfl ?_
  refine v_aload_n X dL_law_1746 1747 rfl 2 rfl ?_
  refine v_mwS X hM (w_X9_credibility_0_t l hl E x co hs er fa ss a1 (x + 339) lg hO ga1 q0) kwL_credibility ksL_credibility kl_L_270 (As := [.ref x, .int (zI a1), .ref (x + 339)]) rfl rfl (rm_lawW rfl (by omega) (by omega)) dL_law_1747 1750 rfl (k' := kq + 1) (n' := nq + 6) rfl rfl (fun q hq => hq.elim) ⟨h_cm, h_co, h_out⟩ (fun rv H1 lo1 hM hF hpo => ?_)
  subst hpo
  replace hzl := Nat.le_trans hzl hF.1
  replace h_cm := h_cm.kept hF 1 rfl (fun q _ _ h => h.elim)
  replace h_co := h_co.kept hF 28 rfl (fun q _ _ h => h.elim)
  replace h_bf := h_bf.kept hF 28 rfl (fun q _ _ h => h.elim)
  replace h_sv := h_sv.kept hF 28 rfl (fun q _ _ h => h.elim)
  replace h_hi := h_hi.kept hF 2 rfl (fun q _ _ h => h.elim)
  replace h_hf := h_hf.kept hF (fun q _ _ h => h.elim)
  replace h_dk := h_dk.kept hF 3 rfl (fun q _ _ h => h.elim)
  replace h_se := h_se.kept hF 5 rfl (fun q _ _ h => h.elim)
  replace h_pg := h_pg.kept hF 1 rfl (fun q _ _ h => h.elim)
  replace h_sb := h_sb.kept hF 1 rfl (fun q _ _ h => h.elim)
  replace h_sa := h_sa.kept hF 1 rfl (fun q _ _ h => h.elim)
  replace h_pr := h_pr.kept hF 10 rfl (fun q _ _ h => h.elim)
  replace h_ln := h_ln.kept hF 1 rfl (fun q _ _ h => h.elim)
  replace h_la := h_la.kept hF 1 rfl (fun q _ _ h => h.elim)
  replace h_mo := h_mo.kept hF 5 rfl (fun q _ _ h => h.elim)
  replace h_out := h_out.kept hF 1 rfl (fun q _ _ h => h.elim)
  replace h_outD := h_outD.kept hF 1 rfl (fun q _ _ h => h.elim)
  show V p l e room_1 s m args below meth cd Q 9 H1 lo1 (kq + 1) (nq + 6) 1750 [(5, .int (zI i)), (4, .ref (x + 340)), (3, .ref (x + 339)), (2, .ref (x + 334)), (1, .ref x), (0, .ref b)] [.int (zI 1)]
  refine v_istore X dL_law_1750 1752 rfl (by decide) (L' := [(6, .int (zI 1)), (5, .int (zI i)), (4, .ref (x + 340)), (3, .ref (x + 339)), (2, .ref (x + 334)), (1, .ref x), (0, .ref b)]) rfl ?_
  refine v_aload_n X dL_law_1752 1753 rfl 4 rfl ?_
  refine v_aload_n X dL_law_1753 1754 rfl 6 rfl ?_
  refine v_iload X dL_law_1754 1756 rfl 1 rfl ?_
  refine v_iconst X dL_law_1756 1757 rfl ?_
  refine v_iadd X dL_law_1757 1758 rfl ?_
  refine v_scr X hM hX hbl hbf (by omega) (by omega) hLx ha1 dL_law_1758 1759 rfl ?_
  refine v_muV X hM (h_mo.1) (c_X10_credibility_0 l E (x + 334) mo co a1 hO hR ga1 q0) kvX10_credibility kiX10_credibility kl_L_272 (q0 := 0) rfl rfl (As := [.int (zI a1)]) rfl rfl (rm_law rfl (by omega) (by omega)) dL_law_1759 1762 rfl (k' := kq + 1) (n' := nq + 6) rfl rfl (fsI (fun q q1 q2 => (Or.inr (by omega)))) h_mo (fun rv H2 lo2 hM hF hpo => ?_)
  obtain ⟨rfl, hw_0⟩ := hpo
  have h_mo : PR E (x + 334) (modelW E (x + 334) (updC mo 0 (updZ (mo 0) 0 1))) H2 := hw_0
  replace hzl := Nat.le_trans hzl hF.1
  replace h_cm := h_cm.kept hF 1 rfl (fsd (by omega))
  replace h_co := h_co.kept hF 28 rfl (fsd (by omega))
  replace h_bf := h_bf.kept hF 28 rfl (fsd (by omega))
  replace h_sv := h_sv.kept hF 28 rfl (fsd (by omega))
  replace h_hi := h_hi.kept hF 2 rfl (fsd (by omega))
  replace h_hf := h_hf.kept hF (fsd (by omega))
  replace h_dk := h_dk.kept hF 3 rfl (fsd (by omega))
  replace h_se := h_se.kept hF 5 rfl (fsd (by omega))
  replace h_pg := h_pg.kept hF 1 rfl (fsd (by omega))
  replace h_sb := h_sb.kept hF 1 rfl (fsd (by omega))
  replace h_sa := h_sa.kept hF 1 rfl (fsd (by omega))
  replace h_pr := h_pr.kept hF 10 rfl (fsd (by omega))
  replace h_ln := h_ln.kept hF 1 rfl (fsd (by omega))
  replace h_la := h_la.kept hF 1 rfl (fsd (by omega))
  replace h_out := h_out.kept hF 1 rfl (fsd (by omega))
  replace h_outD := h_outD.kept hF 1 rfl (fsd (by omega))
  show V p l e room_1 s m args below meth cd Q 9 H2 lo2 (kq + 1) (nq + 6) 1762 [(6, .int (zI 1)), (5, .int (zI i)), (4, .ref (x + 340)), (3, .ref (x + 339)), (2, .ref (x + 334)), (1, .ref x), (0, .ref b)] [.int (zI 0)]
  refine v_istore X dL_law_1762 1764 rfl (by decide) (L' := [(7, .int (zI 0)), (6, .int (zI 1)), (5, .int (zI i)), (4, .ref (x + 340)), (3, .ref (x + 339)), (2, .ref (x + 334)), (1, .ref x), (0, .ref b)]) rfl ?_
  refine v_aload_n X dL_law_1764 1765 rfl 5 rfl ?_
  refine v_rdV X hM.C h_mo.1 (c_X10_thrown l E (x + 334) (updC mo 0 (updZ (mo 0) 0 1))) kvX10_thrown kiX10_thrown kl_L_196 rfl rfl (As := []) rfl rfl (rm_law0 rfl (by omega) (by omega)) dL_law_1765 1768 rfl ?_
  show V p l e room_1 s m args below meth cd Q 9 H2 lo2 (kq + 1) (nq + 6) 1768 [(7, .int (zI 0)), (6, .int (zI 1)), (5, .int (zI i)), (4, .ref (x + 340)), (3, .ref (x + 339)), (2, .ref (x + 334)), (1, .ref x), (0, .ref b)] [.int (zI 1)]
  refine v_iload X dL_law_1768 1770 rfl 1 rfl ?_
  refine v_icmp_eq X (by omega) (by omega) dL_law_1770 1773 1775 rfl (by decide) (fun c_3 => ?_) (fun c_3 => ?_)
  · skip
    refine v_iload X dL_law_1775 1777 rfl 1 rfl ?_
    refine v_if_ne X (by omega) dL_law_1777 1780 1792 rfl (by decide) (fun c_4 => ?_) (fun c_4 => ?_)
    · skip
      refine v_goto X dL_law_1792 3555 (by decide) ?_
      refine v_widen (k' := kq + 60) (n' := nq + 4000) (by omega) (by omega) ?_
      exact V_pick [2, 3, 4, 5, 6, 7] rfl (kk _ _ hM ⟨hzl, _, _, _, _, _, _, _, _, _, _, _, _, _, _, _, _, _, _, _, _, _, _, _, _, _, _, _, _, ⟨h_cm, h_co, h_bf, h_sv, h_hi, h_hf, h_dk, h_se, h_pg, h_sb, h_sa, h_pr, h_ln, h_la, h_mo, h_out, h_outD⟩, hP0.mo_0⟩)
    · skip
      exfalso; omega
  · skip
    exfalso; omega
set_option maxHeartbeats 4000000 in
set_option maxRecDepth 20000 in
theorem lo_casesOfWitness (hl : l.stackTraces = false) (X : CF p m cd code 9 s args RL) (hX : va_X b Lx xs s s.heap) (hbl : b < s.heap.size) (hLx : Lx ≤ 2560) (hM : MS E [] s H lo) (hk : kq + 60 ≤ 603072) (hn : nq + 4000 ≤ 7211113) (hx : s.heap.size ≤ x) (hzl : x + 341 ≤ H.size) {v : Nat} {N : Nat} {f : Int → Int} {nn : Int} {v2 : Nat} {N2 : Nat} {f2 : Int → Int} {n2 : Int} {co : Nat → Int → Int} {bf : Nat → Int → Int} {cv : Nat → Int → Int} {hc : Nat → Nat → Int → Int} {nx : Int} {sz : Int} {hs : Int} {er : Int} {fa : Int} {ss : Int} {dk : Nat → Int → Int} {se : Nat → Int → Int} {po : Int} {si : Int} {pr : Nat → Int → Int} {ml : Int} {ml2 : Int} {mo : Nat → Int → Int} {lg : Nat → Int64} {dg : Nat → UInt64} (hW : LawW E x v N f nn v2 N2 f2 n2 co bf cv hc nx sz hs er fa ss dk se po si pr ml ml2 mo lg dg H) (hP : LawP x v N f nn v2 N2 f2 n2 co cv hc nx sz hs er fa ss po si pr mo) (i0 : 0 ≤ i) (i1 : i + 5 ≤ (Lx : Int)) {a1 : Int} (ha1 : (xs (i + 1).toNat).toInt = a1) (ga1 : Rg a1) (q0 : 0 ≤ a1 ∧ a1 < co 0 1) (kk : ∀ (H1 : Heap) (lo1 : List Loc), MS E [] s H1 lo1 → LawI E x H1 → V p l e room_1 s m args below meth cd Q 9 H1 lo1 (kq + 60) (nq + 4000) 3555 [(5, .int (zI i)), (4, .ref (x + 340)), (3, .ref (x + 339)), (2, .ref (x + 334)), (1, .ref x), (0, .ref b)] []) : V p l e room_1 s m args below meth cd Q 9 H lo kq nq 1795 [(5, .int (zI i)), (4, .ref (x + 340)), (3, .ref (x + 339)), (2, .ref (x + 334)), (1, .ref x), (0, .ref b)] [] := by
  obtain ⟨h_cm, h_co, h_bf, h_sv, h_hi, h_hf, h_dk, h_se, h_pg, h_sb, h_sa, h_pr, h_ln, h_la, h_mo, h_out, h_outD⟩ := hW
  have hP0 := hP
  obtain ⟨⟨hD, hDv, hDh⟩, ⟨hRM, hch, hcs⟩, ⟨⟨n0, n1⟩, ⟨s0, s1⟩, hhs⟩, ⟨hm8, hnn, hAg, hNN, hnN, hf9⟩, ⟨T, hSB, hLT, hn38⟩, hPB, ⟨her, hfa, hss, ger, gfa, gss, gms⟩, ⟨gpo, gsi⟩, ⟨hv1, hv2, hvv⟩⟩ := hP
  have hO := hD.inv.ok
  have hI := hD.inv.ts
  have hSt := hD.inv.st
  have hS := hD.inv.sn
  have hR := hRM.1.2
  have hG := gp_inv hD
  have hb0 := hO.b0
  have hbw := hO.bw
  have hbf : ¬ Fr [] s.heap.size b := fun z => z.elim (fun q => q.elim) (fun q => by omega)
  refine v_aload_n X dL_law_1795 1796 rfl 4 rfl ?_
  refine v_aload_n X dL_law_1796 1797 rfl 5 rfl ?_
  refine v_iload X dL_law_1797 1799 rfl 0 rfl ?_
  refine v_iconst X dL_law_1799 1800 rfl ?_
  refine v_iadd X dL_law_1800 1801 rfl ?_
  refine v_scr X hM hX hbl hbf (by omega) (by omega) hLx ha1 dL_law_1801 1802 rfl ?_
  refine v_aload_n X dL_law_1802 1803 rfl 2 rfl ?_
  refine v_mwS X hM (w_X9_casesOfWitness l hl E x co hs er fa ss a1 (x + 339) lg hO ga1 q0 (by omega) (by omega)) kwL_casesOfWitness ksL_casesOfWitness kl_L_273 (As := [.ref x, .int (zI a1), .ref (x + 339)]) rfl rfl (rm_lawW rfl (by omega) (by omega)) dL_law_1803 1806 rfl (k' := kq + 1) (n' := nq + 6) rfl rfl (fsI (fun q q1 q2 => (Or.inr (by omega)))) ⟨h_cm, h_co, h_out⟩ (fun rv H1 lo1 hM hF hpo => ?_)
  obtain ⟨rfl, hw_0⟩ := hpo
  have h_out : PR E (x + 339) [(x + 339, .inl (E 102 4, 1, .inr (.inl (fun _ => zL (chC co a1)))))] H1 := hw_0
  replace hzl := Nat.le_trans hzl hF.1
  replace h_cm := h_cm.kept hF 1 rfl (fsd (by omega))
  replace h_co := h_co.kept hF 28 rfl (fsd (by omega))
  replace h_bf := h_bf.kept hF 28 rfl (fsd (by omega))
  replace h_sv := h_sv.kept hF 28 rfl (fsd (by omega))
  replace h_hi := h_hi.kept hF 2 rfl (fsd (by omega))
  replace h_hf := h_hf.kept hF (fsd (by omega))
  replace h_dk := h_dk.kept hF 3 rfl (fsd (by omega))
  replace h_se := h_se.kept hF 5 rfl (fsd (by omega))
  replace h_pg := h_pg.kept hF 1 rfl (fsd (by omega))
  replace h_sb := h_sb.kept hF 1 rfl (fsd (by omega))
  replace h_sa := h_sa.kept hF 1 rfl (fsd (by omega))
  replace h_pr := h_pr.kept hF 10 rfl (fsd (by omega))
  replace h_ln := h_ln.kept hF 1 rfl (fsd (by omega))
  replace h_la := h_la.kept hF 1 rfl (fsd (by omega))
  replace h_mo := h_mo.kept hF 5 rfl (fsd (by omega))
  replace h_outD := h_outD.kept hF 1 rfl (fsd (by omega))
  show V p l e room_1 s m args below meth cd Q 9 H1 lo1 (kq + 1) (nq + 6) 1806 [(5, .int (zI i)), (4, .ref (x + 340)), (3, .ref (x + 339)), (2, .ref (x + 334)), (1, .ref x), (0, .ref b)] [.int (zI 0)]
  refine v_istore X dL_law_1806 1808 rfl (by decide) (L' := [(6, .int (zI 0)), (5, .int (zI i)), (4, .ref (x + 340)), (3, .ref (x + 339)), (2, .ref (x + 334)), (1, .ref x), (0, .ref b)]) rfl ?_
  refine v_aload_n X dL_law_1808 1809 rfl 4 rfl ?_
  refine v_aload_n X dL_law_1809 1810 rfl 6 rfl ?_
  refine v_iload X dL_law_1810 1812 rfl 1 rfl ?_
  refine v_iconst X dL_law_1812 1813 rfl ?_
  refine v_iadd X dL_law_1813 1814 rfl ?_
  refine v_scr X hM hX hbl hbf (by omega) (by omega) hLx ha1 dL_law_1814 1815 rfl ?_
  refine v_muV X hM (h_mo.1) (c_X10_casesOfWitness l E (x + 334) mo co a1 hO hR hI ga1 q0) kvX10_casesOfWitness kiX10_casesOfWitness kl_L_275 (q0 := 0) rfl rfl (As := [.int (zI a1)]) rfl rfl (rm_law rfl (by omega) (by omega)) dL_law_1815 1818 rfl (k' := kq + 1) (n' := nq + 6) rfl rfl (fsI (fun q q1 q2 => (Or.inr (by omega)))) h_mo (fun rv H2 lo2 hM hF hpo => ?_)
  obtain ⟨rfl, hw_0⟩ := hpo
  have h_mo : PR E (x + 334) (modelW E (x + 334) (updC mo 0 (updZ (mo 0) 0 0))) H2 := hw_0
  replace hzl := Nat.le_trans hzl hF.1
  replace h_cm := h_cm.kept hF 1 rfl (fsd (by omega))
  replace h_co := h_co.kept hF 28 rfl (fsd (by omega))
  replace h_bf := h_bf.kept hF 28 rfl (fsd (by omega))
  replace h_sv := h_sv.kept hF 28 rfl (fsd (by omega))
  replace h_hi := h_hi.kept hF 2 rfl (fsd (by omega))
  replace h_hf := h_hf.kept hF (fsd (by omega))
  replace h_dk := h_dk.kept hF 3 rfl (fsd (by omega))
  replace h_se := h_se.kept hF 5 rfl (fsd (by omega))
  replace h_pg := h_pg.kept hF 1 rfl (fsd (by omega))
  replace h_sb := h_sb.kept hF 1 rfl (fsd (by omega))
  replace h_sa := h_sa.kept hF 1 rfl (fsd (by omega))
  replace h_pr := h_pr.kept hF 10 rfl (fsd (by omega))
  replace h_ln := h_ln.kept hF 1 rfl (fsd (by omega))
  replace h_la := h_la.kept hF 1 rfl (fsd (by omega))
  replace h_out := h_out.kept hF 1 rfl (fsd (by omega))
  replace h_outD := h_outD.kept hF 1 rfl (fsd (by omega))
  show V p l e room_1 s m args below meth cd Q 9 H2 lo2 (kq + 1) (nq + 6) 1818 [(6, .int (zI 0)), (5, .int (zI i)), (4, .ref (x + 340)), (3, .ref (x + 339)), (2, .ref (x + 334)), (1, .ref x), (0, .ref b)] [.int (zI (chC co a1))]
  refine v_istore X dL_law_1818 1820 rfl (by decide) (L' := [(7, .int (zI (chC co a1))), (6, .int (zI 0)), (5, .int (zI i)), (4, .ref (x + 340)), (3, .ref (x + 339)), (2, .ref (x + 334)), (1, .ref x), (0, .ref b)]) rfl ?_
  refine v_aload_n X dL_law_1820 1821 rfl 5 rfl ?_
  refine v_rdV X hM.C h_mo.1 (c_X10_thrown l E (x + 334) (updC mo 0 (updZ (mo 0) 0 0))) kvX10_thrown kiX10_thrown kl_L_196 rfl rfl (As := []) rfl rfl (rm_law0 rfl (by omega) (by omega)) dL_law_1821 1824 rfl ?_
  show V p l e room_1 s m args below meth cd Q 9 H2 lo2 (kq + 1) (nq + 6) 1824 [(7, .int (zI (chC co a1))), (6, .int (zI 0)), (5, .int (zI i)), (4, .ref (x + 340)), (3, .ref (x + 339)), (2, .ref (x + 334)), (1, .ref x), (0, .ref b)] [.int (zI 0)]
  refine v_iload X dL_law_1824 1826 rfl 1 rfl ?_
  refine v_icmp_eq X (by omega) (by omega) dL_law_1826 1829 1831 rfl (by decide) (fun c_3 => ?_) (fun c_3 => ?_)
  · skip
    refine v_iload X dL_law_1831 1833 rfl 1 rfl ?_
    refine v_if_ne X (by omega) dL_law_1833 1836 1848 rfl (by decide) (fun c_4 => ?_) (fun c_4 => ?_)
    · skip
      exfalso; omega
    · skip
      refine v_aload_n X dL_law_1836 1837 rfl 4 rfl ?_
      refine v_iconst X dL_law_1837 1838 rfl ?_
      refine v_lald X hM.C h_out.1 0 rfl dL_law_1838 1839 rfl ?_
      show V p l e room_1 s m args below meth cd Q 9 H2 lo2 (kq + 1) (nq + 6) 1839 [(7, .int (zI (chC co a1))), (6, .int (zI 0)), (5, .int (zI i)), (4, .ref (x + 340)), (3, .ref (x + 339)), (2, .ref (x + 334)), (1, .ref x), (0, .ref b)] [.long (zL (chC co a1))]
      refine v_iload X dL_law_1839 1841 rfl 0 rfl ?_
      refine v_i2l X dL_law_1841 1842 rfl ?_
      refine v_lcmp0 X dL_law_1842 1843 rfl ?_
      refine v_if_eq X (by omega) dL_law_1843 1846 1848 rfl (by decide) (fun c_5 => ?_) (fun c_5 => ?_)
      · skip
        refine v_goto X dL_law_1848 3555 (by decide) ?_
        refine v_widen (k' := kq + 60) (n' := nq + 4000) (by omega) (by omega) ?_
        exact V_pick [2, 3, 4, 5, 6, 7] rfl (kk _ _ hM ⟨hzl, _, _, _, _, _, _, _, _, _, _, _, _, _, _, _, _, _, _, _, _, _, _, _, _, _, _, _, _, ⟨h_cm, h_co, h_bf, h_sv, h_hi, h_hf, h_dk, h_se, h_pg, h_sb, h_sa, h_pr, h_ln, h_la, h_mo, h_out, h_outD⟩, hP0.mo_0⟩)
      · skip
        exfalso; omega
  · skip
    exfalso; omega
set_option maxHeartbeats 4000000 in
set_option maxRecDepth 20000 in
theorem lo_casesOfWitness_1 (hl : l.stackTraces = false) (X : CF p m cd code 9 s args RL) (hX : va_X b Lx xs s s.heap) (hbl : b < s.heap.size) (hLx : Lx ≤ 2560) (hM : MS E [] s H lo) (hk : kq + 60 ≤ 603072) (hn : nq + 4000 ≤ 7211113) (hx : s.heap.size ≤ x) (hzl : x + 341 ≤ H.size) {v : Nat} {N : Nat} {f : Int → Int} {nn : Int} {v2 : Nat} {N2 : Nat} {f2 : Int → Int} {n2 : Int} {co : Nat → Int → Int} {bf : Nat → Int → Int} {cv : Nat → Int → Int} {hc : Nat → Nat → Int → Int} {nx : Int} {sz : Int} {hs : Int} {er : Int} {fa : Int} {ss : Int} {dk : Nat → Int → Int} {se : Nat → Int → Int} {po : Int} {si : Int} {pr : Nat → Int → Int} {ml : Int} {ml2 : Int} {mo : Nat → Int → Int} {lg : Nat → Int64} {dg : Nat → UInt64} (hW : LawW E x v N f nn v2 N2 f2 n2 co bf cv hc nx sz hs er fa ss dk se po si pr ml ml2 mo lg dg H) (hP : LawP x v N f nn v2 N2 f2 n2 co cv hc nx sz hs er fa ss po si pr mo) (i0 : 0 ≤ i) (i1 : i + 5 ≤ (Lx : Int)) {a1 : Int} (ha1 : (xs (i + 1).toNat).toInt = a1) (ga1 : Rg a1) (q0 : ¬ (0 ≤ a1 ∧ a1 < co 0 1)) (kk : ∀ (H1 : Heap) (lo1 : List Loc), MS E [] s H1 lo1 → LawI E x H1 → V p l e room_1 s m args below meth cd Q 9 H1 lo1 (kq + 60) (nq + 4000) 3555 [(5, .int (zI i)), (4, .ref (x + 340)), (3, .ref (x + 339)), (2, .ref (x + 334)), (1, .ref x), (0, .ref b)] []) : V p l e room_1 s m args below meth cd Q 9 H lo kq nq 1795 [(5, .int (zI i)), (4, .ref (x + 340)), (3, .ref (x + 339)), (2, .ref (x + 334)), (1, .ref x), (0, .ref b)] [] := by
  obtain ⟨h_cm, h_co, h_bf, h_sv, h_hi, h_hf, h_dk, h_se, h_pg, h_sb, h_sa, h_pr, h_ln, h_la, h_mo, h_out, h_outD⟩ := hW
  have hP0 := hP
  obtain ⟨⟨hD, hDv, hDh⟩, ⟨hRM, hch, hcs⟩, ⟨⟨n0, n1⟩, ⟨s0, s1⟩, hhs⟩, ⟨hm8, hnn, hAg, hNN, hnN, hf9⟩, ⟨T, hSB, hLT, hn38⟩, hPB, ⟨her, hfa, hss, ger, gfa, gss, gms⟩, ⟨gpo, gsi⟩, ⟨hv1, hv2, hvv⟩⟩ := hP
  have hO := hD.inv.ok
  have hI := hD.inv.ts
  have hSt := hD.inv.st
  have hS := hD.inv.sn
  have hR := hRM.1.2
  have hG := gp_inv hD
  have hb0 := hO.b0
  have hbw := hO.bw
  have hbf : ¬ Fr [] s.heap.size b := fun z => z.elim (fun q => q.elim) (fun q => by omega)
  refine v_aload_n X dL_law_1795 1796 rfl 4 rfl ?_
  refine v_aload_n X dL_law_1796 1797 rfl 5 rfl ?_
  refine v_iload X dL_law_1797 1799 rfl 0 rfl ?_
  refine v_iconst X dL_law_1799 1800 rfl ?_
  refine v_iadd X dL_law_1800 1801 rfl ?_
  refine v_scr X hM hX hbl hbf (by omega) (by omega) hLx ha1 dL_law_1801 1802 rfl ?_
  refine v_aload_n X dL_law_1802 1803 rfl 2 rfl ?_
  refine v_mwS X hM (w_X9_casesOfWitness_0_t l hl E x co hs er fa ss a1 (x + 339) lg hO ga1 q0) kwL_casesOfWitness ksL_casesOfWitness kl_L_273 (As := [.ref x, .int (zI a1), .ref (x + 339)]) rfl rfl (rm_lawW rfl (by omega) (by omega)) dL_law_1803 1806 rfl (k' := kq + 1) (n' := nq + 6) rfl rfl (fun q hq => hq.elim) ⟨h_cm, h_co, h_out⟩ (fun rv H1 lo1 hM hF hpo => ?_)
  subst hpo
  replace hzl := Nat.le_trans hzl hF.1
  replace h_cm := h_cm.kept hF 1 rfl (fun q _ _ h => h.elim)
  replace h_co := h_co.kept hF 28 rfl (fun q _ _ h => h.elim)
  replace h_bf := h_bf.kept hF 28 rfl (fun q _ _ h => h.elim)
  replace h_sv := h_sv.kept hF 28 rfl (fun q _ _ h => h.elim)
  replace h_hi := h_hi.kept hF 2 rfl (fun q _ _ h => h.elim)
  replace h_hf := h_hf.kept hF (fun q _ _ h => h.elim)
  replace h_dk := h_dk.kept hF 3 rfl (fun q _ _ h => h.elim)
  replace h_se := h_se.kept hF 5 rfl (fun q _ _ h => h.elim)
  replace h_pg := h_pg.kept hF 1 rfl (fun q _ _ h => h.elim)
  replace h_sb := h_sb.kept hF 1 rfl (fun q _ _ h => h.elim)
  replace h_sa := h_sa.kept hF 1 rfl (fun q _ _ h => h.elim)
  replace h_pr := h_pr.kept hF 10 rfl (fun q _ _ h => h.elim)
  replace h_ln := h_ln.kept hF 1 rfl (fun q _ _ h => h.elim)
  replace h_la := h_la.kept hF 1 rfl (fun q _ _ h => h.elim)
  replace h_mo := h_mo.kept hF 5 rfl (fun q _ _ h => h.elim)
  replace h_out := h_out.kept hF 1 rfl (fun q _ _ h => h.elim)
  replace h_outD := h_outD.kept hF 1 rfl (fun q _ _ h => h.elim)
  show V p l e room_1 s m args below meth cd Q 9 H1 lo1 (kq + 1) (nq + 6) 1806 [(5, .int (zI i)), (4, .ref (x + 340)), (3, .ref (x + 339)), (2, .ref (x + 334)), (1, .ref x), (0, .ref b)] [.int (zI 1)]
  refine v_istore X dL_law_1806 1808 rfl (by decide) (L' := [(6, .int (zI 1)), (5, .int (zI i)), (4, .ref (x + 340)), (3, .ref (x + 339)), (2, .ref (x + 334)), (1, .ref x), (0, .ref b)]) rfl ?_
  refine v_aload_n X dL_law_1808 1809 rfl 4 rfl ?_
  refine v_aload_n X dL_law_1809 1810 rfl 6 rfl ?_
  refine v_iload X dL_law_1810 1812 rfl 1 rfl ?_
  refine v_iconst X dL_law_1812 1813 rfl ?_
  refine v_iadd X dL_law_1813 1814 rfl ?_
  refine v_scr X hM hX hbl hbf (by omega) (by omega) hLx ha1 dL_law_1814 1815 rfl ?_
  refine v_muV X hM (h_mo.1) (c_X10_casesOfWitness_0 l E (x + 334) mo co a1 hO hR hI ga1 q0) kvX10_casesOfWitness kiX10_casesOfWitness kl_L_275 (q0 := 0) rfl rfl (As := [.int (zI a1)]) rfl rfl (rm_law rfl (by omega) (by omega)) dL_law_1815 1818 rfl (k' := kq + 1) (n' := nq + 6) rfl rfl (fsI (fun q q1 q2 => (Or.inr (by omega)))) h_mo (fun rv H2 lo2 hM hF hpo => ?_)
  obtain ⟨rfl, hw_0⟩ := hpo
  have h_mo : PR E (x + 334) (modelW E (x + 334) (updC mo 0 (updZ (mo 0) 0 1))) H2 := hw_0
  replace hzl := Nat.le_trans hzl hF.1
  replace h_cm := h_cm.kept hF 1 rfl (fsd (by omega))
  replace h_co := h_co.kept hF 28 rfl (fsd (by omega))
  replace h_bf := h_bf.kept hF 28 rfl (fsd (by omega))
  replace h_sv := h_sv.kept hF 28 rfl (fsd (by omega))
  replace h_hi := h_hi.kept hF 2 rfl (fsd (by omega))
  replace h_hf := h_hf.kept hF (fsd (by omega))
  replace h_dk := h_dk.kept hF 3 rfl (fsd (by omega))
  replace h_se := h_se.kept hF 5 rfl (fsd (by omega))
  replace h_pg := h_pg.kept hF 1 rfl (fsd (by omega))
  replace h_sb := h_sb.kept hF 1 rfl (fsd (by omega))
  replace h_sa := h_sa.kept hF 1 rfl (fsd (by omega))
  replace h_pr := h_pr.kept hF 10 rfl (fsd (by omega))
  replace h_ln := h_ln.kept hF 1 rfl (fsd (by omega))
  replace h_la := h_la.kept hF 1 rfl (fsd (by omega))
  replace h_out := h_out.kept hF 1 rfl (fsd (by omega))
  replace h_outD := h_outD.kept hF 1 rfl (fsd (by omega))
  show V p l e room_1 s m args below meth cd Q 9 H2 lo2 (kq + 1) (nq + 6) 1818 [(6, .int (zI 1)), (5, .int (zI i)), (4, .ref (x + 340)), (3, .ref (x + 339)), (2, .ref (x + 334)), (1, .ref x), (0, .ref b)] [.int (zI 0)]
  refine v_istore X dL_law_1818 1820 rfl (by decide) (L' := [(7, .int (zI 0)), (6, .int (zI 1)), (5, .int (zI i)), (4, .ref (x + 340)), (3, .ref (x + 339)), (2, .ref (x + 334)), (1, .ref x), (0, .ref b)]) rfl ?_
  refine v_aload_n X dL_law_1820 1821 rfl 5 rfl ?_
  refine v_rdV X hM.C h_mo.1 (c_X10_thrown l E (x + 334) (updC mo 0 (updZ (mo 0) 0 1))) kvX10_thrown kiX10_thrown kl_L_196 rfl rfl (As := []) rfl rfl (rm_law0 rfl (by omega) (by omega)) dL_law_1821 1824 rfl ?_
  show V p l e room_1 s m args below meth cd Q 9 H2 lo2 (kq + 1) (nq + 6) 1824 [(7, .int (zI 0)), (6, .int (zI 1)), (5, .int (zI i)), (4, .ref (x + 340)), (3, .ref (x + 339)), (2, .ref (x + 334)), (1, .ref x), (0, .ref b)] [.int (zI 1)]
  refine v_iload X dL_law_1824 1826 rfl 1 rfl ?_
  refine v_icmp_eq X (by omega) (by omega) dL_law_1826 1829 1831 rfl (by decide) (fun c_3 => ?_) (fun c_3 => ?_)
  · skip
    refine v_iload X dL_law_1831 1833 rfl 1 rfl ?_
    refine v_if_ne X (by omega) dL_law_1833 1836 1848 rfl (by decide) (fun c_4 => ?_) (fun c_4 => ?_)
    · skip
      refine v_goto X dL_law_1848 3555 (by decide) ?_
      refine v_widen (k' := kq + 60) (n' := nq + 4000) (by omega) (by omega) ?_
      exact V_pick [2, 3, 4, 5, 6, 7] rfl (kk _ _ hM ⟨hzl, _, _, _, _, _, _, _, _, _, _, _, _, _, _, _, _, _, _, _, _, _, _, _, _, _, _, _, _, ⟨h_cm, h_co, h_bf, h_sv, h_hi, h_hf, h_dk, h_se, h_pg, h_sb, h_sa, h_pr, h_ln, h_la, h_mo, h_out, h_outD⟩, hP0.mo_0⟩)
    · skip
      exfalso; omega
  · skip
    exfalso; omega
set_option maxHeartbeats 4000000 in
set_option maxRecDepth 20000 in
theorem lo_mostCredible (hl : l.stackTraces = false) (X : CF p m cd code 9 s args RL) (hX : va_X b Lx xs s s.heap) (hbl : b < s.heap.size) (hLx : Lx ≤ 2560) (hM : MS E [] s H lo) (hk : kq + 60 ≤ 603072) (hn : nq + 4000 ≤ 7211113) (hx : s.heap.size ≤ x) (hzl : x + 341 ≤ H.size) {v : Nat} {N : Nat} {f : Int → Int} {nn : Int} {v2 : Nat} {N2 : Nat} {f2 : Int → Int} {n2 : Int} {co : Nat → Int → Int} {bf : Nat → Int → Int} {cv : Nat → Int → Int} {hc : Nat → Nat → Int → Int} {nx : Int} {sz : Int} {hs : Int} {er : Int} {fa : Int} {ss : Int} {dk : Nat → Int → Int} {se : Nat → Int → Int} {po : Int} {si : Int} {pr : Nat → Int → Int} {ml : Int} {ml2 : Int} {mo : Nat → Int → Int} {lg : Nat → Int64} {dg : Nat → UInt64} (hW : LawW E x v N f nn v2 N2 f2 n2 co bf cv hc nx sz hs er fa ss dk se po si pr ml ml2 mo lg dg H) (hP : LawP x v N f nn v2 N2 f2 n2 co cv hc nx sz hs er fa ss po si pr mo) (i0 : 0 ≤ i) (i1 : i + 5 ≤ (Lx : Int)) {a1 : Int} (ha1 : (xs (i + 1).toNat).toInt = a1) (ga1 : Rg a1) (q0 : 0 ≤ firstZ (fun j => rkC co j = a1) (co 0 1).toNat) (kk : ∀ (H1 : Heap) (lo1 : List Loc), MS E [] s H1 lo1 → LawI E x H1 → V p l e room_1 s m args below meth cd Q 9 H1 lo1 (kq + 60) (nq + 4000) 3555 [(5, .int (zI i)), (4, .ref (x + 340)), (3, .ref (x + 339)), (2, .ref (x + 334)), (1, .ref x), (0, .ref b)] []) : V p l e room_1 s m args below meth cd Q 9 H lo kq nq 1851 [(5, .int (zI i)), (4, .ref (x + 340)), (3, .ref (x + 339)), (2, .ref (x + 334)), (1, .ref x), (0, .ref b)] [] := by
  obtain ⟨h_cm, h_co, h_bf, h_sv, h_hi, h_hf, h_dk, h_se, h_pg, h_sb, h_sa, h_pr, h_ln, h_la, h_mo, h_out, h_outD⟩ := hW
  have hP0 := hP
  obtain ⟨⟨hD, hDv, hDh⟩, ⟨hRM, hch, hcs⟩, ⟨⟨n0, n1⟩, ⟨s0, s1⟩, hhs⟩, ⟨hm8, hnn, hAg, hNN, hnN, hf9⟩, ⟨T, hSB, hLT, hn38⟩, hPB, ⟨her, hfa, hss, ger, gfa, gss, gms⟩, ⟨gpo, gsi⟩, ⟨hv1, hv2, hvv⟩⟩ := hP
  have hO := hD.inv.ok
  have hI := hD.inv.ts
  have hSt := hD.inv.st
  have hS := hD.inv.sn
  have hR := hRM.1.2
  have hG := gp_inv hD
  have hb0 := hO.b0
  have hbw := hO.bw
  have hbf : ¬ Fr [] s.heap.size b := fun z => z.elim (fun q => q.elim) (fun q => by omega)
  refine v_aload_n X dL_law_1851 1852 rfl 4 rfl ?_
  refine v_aload_n X dL_law_1852 1853 rfl 5 rfl ?_
  refine v_iload X dL_law_1853 1855 rfl 0 rfl ?_
  refine v_iconst X dL_law_1855 1856 rfl ?_
  refine v_iadd X dL_law_1856 1857 rfl ?_
  refine v_scr X hM hX hbl hbf (by omega) (by omega) hLx ha1 dL_law_1857 1858 rfl ?_
  refine v_aload_n X dL_law_1858 1859 rfl 2 rfl ?_
  refine v_mwS X hM (w_X9_mostCredible l hl E x co hs er fa ss a1 (x + 339) lg hO ga1 q0 (by omega) (by omega)) kwL_mostCredible ksL_mostCredible kl_L_276 (As := [.ref x, .int (zI a1), .ref (x + 339)]) rfl rfl (rm_lawW rfl (by omega) (by omega)) dL_law_1859 1862 rfl (k' := kq + 1) (n' := nq + 6) rfl rfl (fsI (fun q q1 q2 => (Or.inr (by omega)))) ⟨h_cm, h_co, h_out⟩ (fun rv H1 lo1 hM hF hpo => ?_)
  obtain ⟨rfl, hw_0⟩ := hpo
  have h_out : PR E (x + 339) [(x + 339, .inl (E 102 4, 1, .inr (.inl (fun _ => zL (firstZ (fun j => rkC co j = a1) (co 0 1).toNat)))))] H1 := hw_0
  replace hzl := Nat.le_trans hzl hF.1
  replace h_cm := h_cm.kept hF 1 rfl (fsd (by omega))
  replace h_co := h_co.kept hF 28 rfl (fsd (by omega))
  replace h_bf := h_bf.kept hF 28 rfl (fsd (by omega))
  replace h_sv := h_sv.kept hF 28 rfl (fsd (by omega))
  replace h_hi := h_hi.kept hF 2 rfl (fsd (by omega))
  replace h_hf := h_hf.kept hF (fsd (by omega))
  replace h_dk := h_dk.kept hF 3 rfl (fsd (by omega))
  replace h_se := h_se.kept hF 5 rfl (fsd (by omega))
  replace h_pg := h_pg.kept hF 1 rfl (fsd (by omega))
  replace h_sb := h_sb.kept hF 1 rfl (fsd (by omega))
  replace h_sa := h_sa.kept hF 1 rfl (fsd (by omega))
  replace h_pr := h_pr.kept hF 10 rfl (fsd (by omega))
  replace h_ln := h_ln.kept hF 1 rfl (fsd (by omega))
  replace h_la := h_la.kept hF 1 rfl (fsd (by omega))
  replace h_mo := h_mo.kept hF 5 rfl (fsd (by omega))
  replace h_outD := h_outD.kept hF 1 rfl (fsd (by omega))
  show V p l e room_1 s m args below meth cd Q 9 H1 lo1 (kq + 1) (nq + 6) 1862 [(5, .int (zI i)), (4, .ref (x + 340)), (3, .ref (x + 339)), (2, .ref (x + 334)), (1, .ref x), (0, .ref b)] [.int (zI 0)]
  refine v_istore X dL_law_1862 1864 rfl (by decide) (L' := [(6, .int (zI 0)), (5, .int (zI i)), (4, .ref (x + 340)), (3, .ref (x + 339)), (2, .ref (x + 334)), (1, .ref x), (0, .ref b)]) rfl ?_
  refine v_aload_n X dL_law_1864 1865 rfl 4 rfl ?_
  refine v_aload_n X dL_law_1865 1866 rfl 6 rfl ?_
  refine v_iload X dL_law_1866 1868 rfl 1 rfl ?_
  refine v_iconst X dL_law_1868 1869 rfl ?_
  refine v_iadd X dL_law_1869 1870 rfl ?_
  refine v_scr X hM hX hbl hbf (by omega) (by omega) hLx ha1 dL_law_1870 1871 rfl ?_
  refine v_muV X hM (h_mo.1) (c_X10_mostCredible l E (x + 334) mo co a1 hO hR hI ga1 q0) kvX10_mostCredible kiX10_mostCredible kl_L_278 (q0 := 0) rfl rfl (As := [.int (zI a1)]) rfl rfl (rm_law rfl (by omega) (by omega)) dL_law_1871 1874 rfl (k' := kq + 1) (n' := nq + 6) rfl rfl (fsI (fun q q1 q2 => (Or.inr (by omega)))) h_mo (fun rv H2 lo2 hM hF hpo => ?_)
  obtain ⟨rfl, hw_0⟩ := hpo
  have h_mo : PR E (x + 334) (modelW E (x + 334) (updC mo 0 (updZ (mo 0) 0 0))) H2 := hw_0
  replace hzl := Nat.le_trans hzl hF.1
  replace h_cm := h_cm.kept hF 1 rfl (fsd (by omega))
  replace h_co := h_co.kept hF 28 rfl (fsd (by omega))
  replace h_bf := h_bf.kept hF 28 rfl (fsd (by omega))
  replace h_sv := h_sv.kept hF 28 rfl (fsd (by omega))
  replace h_hi := h_hi.kept hF 2 rfl (fsd (by omega))
  replace h_hf := h_hf.kept hF (fsd (by omega))
  replace h_dk := h_dk.kept hF 3 rfl (fsd (by omega))
  replace h_se := h_se.kept hF 5 rfl (fsd (by omega))
  replace h_pg := h_pg.kept hF 1 rfl (fsd (by omega))
  replace h_sb := h_sb.kept hF 1 rfl (fsd (by omega))
  replace h_sa := h_sa.kept hF 1 rfl (fsd (by omega))
  replace h_pr := h_pr.kept hF 10 rfl (fsd (by omega))
  replace h_ln := h_ln.kept hF 1 rfl (fsd (by omega))
  replace h_la := h_la.kept hF 1 rfl (fsd (by omega))
  replace h_out := h_out.kept hF 1 rfl (fsd (by omega))
  replace h_outD := h_outD.kept hF 1 rfl (fsd (by omega))
  show V p l e room_1 s m args below meth cd Q 9 H2 lo2 (kq + 1) (nq + 6) 1874 [(6, .int (zI 0)), (5, .int (zI i)), (4, .ref (x + 340)), (3, .ref (x + 339)), (2, .ref (x + 334)), (1, .ref x), (0, .ref b)] [.int (zI (firstZ (fun j => rkC co j = a1) (co 0 1).toNat))]
  refine v_istore X dL_law_1874 1876 rfl (by decide) (L' := [(7, .int (zI (firstZ (fun j => rkC co j = a1) (co 0 1).toNat))), (6, .int (zI 0)), (5, .int (zI i)), (4, .ref (x + 340)), (3, .ref (x + 339)), (2, .ref (x + 334)), (1, .ref x), (0, .ref b)]) rfl ?_
  refine v_aload_n X dL_law_1876 1877 rfl 5 rfl ?_
  refine v_rdV X hM.C h_mo.1 (c_X10_thrown l E (x + 334) (updC mo 0 (updZ (mo 0) 0 0))) kvX10_thrown kiX10_thrown kl_L_196 rfl rfl (As := []) rfl rfl (rm_law0 rfl (by omega) (by omega)) dL_law_1877 1880 rfl ?_
  show V p l e room_1 s m args below meth cd Q 9 H2 lo2 (kq + 1) (nq + 6) 1880 [(7, .int (zI (firstZ (fun j => rkC co j = a1) (co 0 1).toNat))), (6, .int (zI 0)), (5, .int (zI i)), (4, .ref (x + 340)), (3, .ref (x + 339)), (2, .ref (x + 334)), (1, .ref x), (0, .ref b)] [.int (zI 0)]
  refine v_iload X dL_law_1880 1882 rfl 1 rfl ?_
  refine v_icmp_eq X (by omega) (by omega) dL_law_1882 1885 1887 rfl (by decide) (fun c_3 => ?_) (fun c_3 => ?_)
  · skip
    refine v_iload X dL_law_1887 1889 rfl 1 rfl ?_
    refine v_if_ne X (by omega) dL_law_1889 1892 1904 rfl (by decide) (fun c_4 => ?_) (fun c_4 => ?_)
    · skip
      exfalso; omega
    · skip
      refine v_aload_n X dL_law_1892 1893 rfl 4 rfl ?_
      refine v_iconst X dL_law_1893 1894 rfl ?_
      refine v_lald X hM.C h_out.1 0 rfl dL_law_1894 1895 rfl ?_
      show V p l e room_1 s m args below meth cd Q 9 H2 lo2 (kq + 1) (nq + 6) 1895 [(7, .int (zI (firstZ (fun j => rkC co j = a1) (co 0 1).toNat))), (6, .int (zI 0)), (5, .int (zI i)), (4, .ref (x + 340)), (3, .ref (x + 339)), (2, .ref (x + 334)), (1, .ref x), (0, .ref b)] [.long (zL (firstZ (fun j => rkC co j = a1) (co 0 1).toNat))]
      refine v_iload X dL_law_1895 1897 rfl 0 rfl ?_
      refine v_i2l X dL_law_1897 1898 rfl ?_
      refine v_lcmp0 X dL_law_1898 1899 rfl ?_
      refine v_if_eq X (by omega) dL_law_1899 1902 1904 rfl (by decide) (fun c_5 => ?_) (fun c_5 => ?_)
      · skip
        refine v_goto X dL_law_1904 3555 (by decide) ?_
        refine v_widen (k' := kq + 60) (n' := nq + 4000) (by omega) (by omega) ?_
        exact V_pick [2, 3, 4, 5, 6, 7] rfl (kk _ _ hM ⟨hzl, _, _, _, _, _, _, _, _, _, _, _, _, _, _, _, _, _, _, _, _, _, _, _, _, _, _, _, _, ⟨h_cm, h_co, h_bf, h_sv, h_hi, h_hf, h_dk, h_se, h_pg, h_sb, h_sa, h_pr, h_ln, h_la, h_mo, h_out, h_outD⟩, hP0.mo_0⟩)
      · skip
        exfalso; omega
  · skip
    exfalso; omega
set_option maxHeartbeats 4000000 in
set_option maxRecDepth 20000 in
theorem lo_mostCredible_1 (hl : l.stackTraces = false) (X : CF p m cd code 9 s args RL) (hX : va_X b Lx xs s s.heap) (hbl : b < s.heap.size) (hLx : Lx ≤ 2560) (hM : MS E [] s H lo) (hk : kq + 60 ≤ 603072) (hn : nq + 4000 ≤ 7211113) (hx : s.heap.size ≤ x) (hzl : x + 341 ≤ H.size) {v : Nat} {N : Nat} {f : Int → Int} {nn : Int} {v2 : Nat} {N2 : Nat} {f2 : Int → Int} {n2 : Int} {co : Nat → Int → Int} {bf : Nat → Int → Int} {cv : Nat → Int → Int} {hc : Nat → Nat → Int → Int} {nx : Int} {sz : Int} {hs : Int} {er : Int} {fa : Int} {ss : Int} {dk : Nat → Int → Int} {se : Nat → Int → Int} {po : Int} {si : Int} {pr : Nat → Int → Int} {ml : Int} {ml2 : Int} {mo : Nat → Int → Int} {lg : Nat → Int64} {dg : Nat → UInt64} (hW : LawW E x v N f nn v2 N2 f2 n2 co bf cv hc nx sz hs er fa ss dk se po si pr ml ml2 mo lg dg H) (hP : LawP x v N f nn v2 N2 f2 n2 co cv hc nx sz hs er fa ss po si pr mo) (i0 : 0 ≤ i) (i1 : i + 5 ≤ (Lx : Int)) {a1 : Int} (ha1 : (xs (i + 1).toNat).toInt = a1) (ga1 : Rg a1) (q0 : ¬ (0 ≤ firstZ (fun j => rkC co j = a1) (co 0 1).toNat)) (kk : ∀ (H1 : Heap) (lo1 : List Loc), MS E [] s H1 lo1 → LawI E x H1 → V p l e room_1 s m args below meth cd Q 9 H1 lo1 (kq + 60) (nq + 4000) 3555 [(5, .int (zI i)), (4, .ref (x + 340)), (3, .ref (x + 339)), (2, .ref (x + 334)), (1, .ref x), (0, .ref b)] []) : V p l e room_1 s m args below meth cd Q 9 H lo kq nq 1851 [(5, .int (zI i)), (4, .ref (x + 340)), (3, .ref (x + 339)), (2, .ref (x + 334)), (1, .ref x), (0, .ref b)] [] := by
  obtain ⟨h_cm, h_co, h_bf, h_sv, h_hi, h_hf, h_dk, h_se, h_pg, h_sb, h_sa, h_pr, h_ln, h_la, h_mo, h_out, h_outD⟩ := hW
  have hP0 := hP
  obtain ⟨⟨hD, hDv, hDh⟩, ⟨hRM, hch, hcs⟩, ⟨⟨n0, n1⟩, ⟨s0, s1⟩, hhs⟩, ⟨hm8, hnn, hAg, hNN, hnN, hf9⟩, ⟨T, hSB, hLT, hn38⟩, hPB, ⟨her, hfa, hss, ger, gfa, gss, gms⟩, ⟨gpo, gsi⟩, ⟨hv1, hv2, hvv⟩⟩ := hP
  have hO := hD.inv.ok
  have hI := hD.inv.ts
  have hSt := hD.inv.st
  have hS := hD.inv.sn
  have hR := hRM.1.2
  have hG := gp_inv hD
  have hb0 := hO.b0
  have hbw := hO.bw
  have hbf : ¬ Fr [] s.heap.size b := fun z => z.elim (fun q => q.elim) (fun q => by omega)
  refine v_aload_n X dL_law_1851 1852 rfl 4 rfl ?_
  refine v_aload_n X dL_law_1852 1853 rfl 5 rfl ?_
  refine v_iload X dL_law_1853 1855 rfl 0 rfl ?_
  refine v_iconst X dL_law_1855 1856 rfl ?_
  refine v_iadd X dL_law_1856 1857 rfl ?_
  refine v_scr X hM hX hbl hbf (by omega) (by omega) hLx ha1 dL_law_1857 1858 rfl ?_
  refine v_aload_n X dL_law_1858 1859 rfl 2 rfl ?_
  refine v_mwS X hM (w_X9_mostCredible_0_t l hl E x co hs er fa ss a1 (x + 339) lg hO ga1 q0) kwL_mostCredible ksL_mostCredible kl_L_276 (As := [.ref x, .int (zI a1), .ref (x + 339)]) rfl rfl (rm_lawW rfl (by omega) (by omega)) dL_law_1859 1862 rfl (k' := kq + 1) (n' := nq + 6) rfl rfl (fun q hq => hq.elim) ⟨h_cm, h_co, h_out⟩ (fun rv H1 lo1 hM hF hpo => ?_)
  subst hpo
  replace hzl := Nat.le_trans hzl hF.1
  replace h_cm := h_cm.kept hF 1 rfl (fun q _ _ h => h.elim)
  replace h_co := h_co.kept hF 28 rfl (fun q _ _ h => h.elim)
  replace h_bf := h_bf.kept hF 28 rfl (fun q _ _ h => h.elim)
  replace h_sv := h_sv.kept hF 28 rfl (fun q _ _ h => h.elim)
  replace h_hi := h_hi.kept hF 2 rfl (fun q _ _ h => h.elim)
  replace h_hf := h_hf.kept hF (fun q _ _ h => h.elim)
  replace h_dk := h_dk.kept hF 3 rfl (fun q _ _ h => h.elim)
  replace h_se := h_se.kept hF 5 rfl (fun q _ _ h => h.elim)
  replace h_pg := h_pg.kept hF 1 rfl (fun q _ _ h => h.elim)
  replace h_sb := h_sb.kept hF 1 rfl (fun q _ _ h => h.elim)
  replace h_sa := h_sa.kept hF 1 rfl (fun q _ _ h => h.elim)
  replace h_pr := h_pr.kept hF 10 rfl (fun q _ _ h => h.elim)
  replace h_ln := h_ln.kept hF 1 rfl (fun q _ _ h => h.elim)
  replace h_la := h_la.kept hF 1 rfl (fun q _ _ h => h.elim)
  replace h_mo := h_mo.kept hF 5 rfl (fun q _ _ h => h.elim)
  replace h_out := h_out.kept hF 1 rfl (fun q _ _ h => h.elim)
  replace h_outD := h_outD.kept hF 1 rfl (fun q _ _ h => h.elim)
  show V p l e room_1 s m args below meth cd Q 9 H1 lo1 (kq + 1) (nq + 6) 1862 [(5, .int (zI i)), (4, .ref (x + 340)), (3, .ref (x + 339)), (2, .ref (x + 334)), (1, .ref x), (0, .ref b)] [.int (zI 1)]
  refine v_istore X dL_law_1862 1864 rfl (by decide) (L' := [(6, .int (zI 1)), (5, .int (zI i)), (4, .ref (x + 340)), (3, .ref (x + 339)), (2, .ref (x + 334)), (1, .ref x), (0, .ref b)]) rfl ?_
  refine v_aload_n X dL_law_1864 1865 rfl 4 rfl ?_
  refine v_aload_n X dL_law_1865 1866 rfl 6 rfl ?_
  refine v_iload X dL_law_1866 1868 rfl 1 rfl ?_
  refine v_iconst X dL_law_1868 1869 rfl ?_
  refine v_iadd X dL_law_1869 1870 rfl ?_
  refine v_scr X hM hX hbl hbf (by omega) (by omega) hLx ha1 dL_law_1870 1871 rfl ?_
  refine v_muV X hM (h_mo.1) (c_X10_mostCredible_0 l E (x + 334) mo co a1 hO hR hI ga1 q0) kvX10_mostCredible kiX10_mostCredible kl_L_278 (q0 := 0) rfl rfl (As := [.int (zI a1)]) rfl rfl (rm_law rfl (by omega) (by omega)) dL_law_1871 1874 rfl (k' := kq + 1) (n' := nq + 6) rfl rfl (fsI (fun q q1 q2 => (Or.inr (by omega)))) h_mo (fun rv H2 lo2 hM hF hpo => ?_)
  obtain ⟨rfl, hw_0⟩ := hpo
  have h_mo : PR E (x + 334) (modelW E (x + 334) (updC mo 0 (updZ (mo 0) 0 1))) H2 := hw_0
  replace hzl := Nat.le_trans hzl hF.1
  replace h_cm := h_cm.kept hF 1 rfl (fsd (by omega))
  replace h_co := h_co.kept hF 28 rfl (fsd (by omega))
  replace h_bf := h_bf.kept hF 28 rfl (fsd (by omega))
  replace h_sv := h_sv.kept hF 28 rfl (fsd (by omega))
  replace h_hi := h_hi.kept hF 2 rfl (fsd (by omega))
  replace h_hf := h_hf.kept hF (fsd (by omega))
  replace h_dk := h_dk.kept hF 3 rfl (fsd (by omega))
  replace h_se := h_se.kept hF 5 rfl (fsd (by omega))
  replace h_pg := h_pg.kept hF 1 rfl (fsd (by omega))
  replace h_sb := h_sb.kept hF 1 rfl (fsd (by omega))
  replace h_sa := h_sa.kept hF 1 rfl (fsd (by omega))
  replace h_pr := h_pr.kept hF 10 rfl (fsd (by omega))
  replace h_ln := h_ln.kept hF 1 rfl (fsd (by omega))
  replace h_la := h_la.kept hF 1 rfl (fsd (by omega))
  replace h_out := h_out.kept hF 1 rfl (fsd (by omega))
  replace h_outD := h_outD.kept hF 1 rfl (fsd (by omega))
  show V p l e room_1 s m args below meth cd Q 9 H2 lo2 (kq + 1) (nq + 6) 1874 [(6, .int (zI 1)), (5, .int (zI i)), (4, .ref (x + 340)), (3, .ref (x + 339)), (2, .ref (x + 334)), (1, .ref x), (0, .ref b)] [.int (zI 0)]
  refine v_istore X dL_law_1874 1876 rfl (by decide) (L' := [(7, .int (zI 0)), (6, .int (zI 1)), (5, .int (zI i)), (4, .ref (x + 340)), (3, .ref (x + 339)), (2, .ref (x + 334)), (1, .ref x), (0, .ref b)]) rfl ?_
  refine v_aload_n X dL_law_1876 1877 rfl 5 rfl ?_
  refine v_rdV X hM.C h_mo.1 (c_X10_thrown l E (x + 334) (updC mo 0 (updZ (mo 0) 0 1))) kvX10_thrown kiX10_thrown kl_L_196 rfl rfl (As := []) rfl rfl (rm_law0 rfl (by omega) (by omega)) dL_law_1877 1880 rfl ?_
  show V p l e room_1 s m args below meth cd Q 9 H2 lo2 (kq + 1) (nq + 6) 1880 [(7, .int (zI 0)), (6, .int (zI 1)), (5, .int (zI i)), (4, .ref (x + 340)), (3, .ref (x + 339)), (2, .ref (x + 334)), (1, .ref x), (0, .ref b)] [.int (zI 1)]
  refine v_iload X dL_law_1880 1882 rfl 1 rfl ?_
  refine v_icmp_eq X (by omega) (by omega) dL_law_1882 1885 1887 rfl (by decide) (fun c_3 => ?_) (fun c_3 => ?_)
  · skip
    refine v_iload X dL_law_1887 1889 rfl 1 rfl ?_
    refine v_if_ne X (by omega) dL_law_1889 1892 1904 rfl (by decide) (fun c_4 => ?_) (fun c_4 => ?_)
    · skip
      refine v_goto X dL_law_1904 3555 (by decide) ?_
      refine v_widen (k' := kq + 60) (n' := nq + 4000) (by omega) (by omega) ?_
      exact V_pick [2, 3, 4, 5, 6, 7] rfl (kk _ _ hM ⟨hzl, _, _, _, _, _, _, _, _, _, _, _, _, _, _, _, _, _, _, _, _, _, _, _, _, _, _, _, _, ⟨h_cm, h_co, h_bf, h_sv, h_hi, h_hf, h_dk, h_se, h_pg, h_sb, h_sa, h_pr, h_ln, h_la, h_mo, h_out, h_outD⟩, hP0.mo_0⟩)
    · skip
      exfalso; omega
  · skip
    exfalso; omega
set_option maxHeartbeats 4000000 in
set_option maxRecDepth 20000 in
theorem lo_agreement (hl : l.stackTraces = false) (X : CF p m cd code 9 s args RL) (hX : va_X b Lx xs s s.heap) (hbl : b < s.heap.size) (hLx : Lx ≤ 2560) (hM : MS E [] s H lo) (hk : kq + 60 ≤ 603072) (hn : nq + 4000 ≤ 7211113) (hx : s.heap.size ≤ x) (hzl : x + 341 ≤ H.size) {v : Nat} {N : Nat} {f : Int → Int} {nn : Int} {v2 : Nat} {N2 : Nat} {f2 : Int → Int} {n2 : Int} {co : Nat → Int → Int} {bf : Nat → Int → Int} {cv : Nat → Int → Int} {hc : Nat → Nat → Int → Int} {nx : Int} {sz : Int} {hs : Int} {er : Int} {fa : Int} {ss : Int} {dk : Nat → Int → Int} {se : Nat → Int → Int} {po : Int} {si : Int} {pr : Nat → Int → Int} {ml : Int} {ml2 : Int} {mo : Nat → Int → Int} {lg : Nat → Int64} {dg : Nat → UInt64} (hW : LawW E x v N f nn v2 N2 f2 n2 co bf cv hc nx sz hs er fa ss dk se po si pr ml ml2 mo lg dg H) (hP : LawP x v N f nn v2 N2 f2 n2 co cv hc nx sz hs er fa ss po si pr mo) (i0 : 0 ≤ i) (i1 : i + 5 ≤ (Lx : Int)) {a1 : Int} (ha1 : (xs (i + 1).toNat).toInt = a1) (ga1 : Rg a1) {a2 : Int} (ha2 : (xs (i + 2).toNat).toInt = a2) (ga2 : Rg a2) (q0 : 0 ≤ a1 ∧ a1 < co 0 1) (q1 : 0 ≤ a2 ∧ a2 < co 0 1) (kk : ∀ (H1 : Heap) (lo1 : List Loc), MS E [] s H1 lo1 → LawI E x H1 → V p l e room_1 s m args below meth cd Q 9 H1 lo1 (kq + 60) (nq + 4000) 3555 [(5, .int (zI i)), (4, .ref (x + 340)), (3, .ref (x + 339)), (2, .ref (x + 334)), (1, .ref x), (0, .ref b)] []) : V p l e room_1 s m args below meth cd Q 9 H lo kq nq 1907 [(5, .int (zI i)), (4, .ref (x + 340)), (3, .ref (x + 339)), (2, .ref (x + 334)), (1, .ref x), (0, .ref b)] [] := by
  obtain ⟨h_cm, h_co, h_bf, h_sv, h_hi, h_hf, h_dk, h_se, h_pg, h_sb, h_sa, h_pr, h_ln, h_la, h_mo, h_out, h_outD⟩ := hW
  have hP0 := hP
  obtain ⟨⟨hD, hDv, hDh⟩, ⟨hRM, hch, hcs⟩, ⟨⟨n0, n1⟩, ⟨s0, s1⟩, hhs⟩, ⟨hm8, hnn, hAg, hNN, hnN, hf9⟩, ⟨T, hSB, hLT, hn38⟩, hPB, ⟨her, hfa, hss, ger, gfa, gss, gms⟩, ⟨gpo, gsi⟩, ⟨hv1, hv2, hvv⟩⟩ := hP
  have hO := hD.inv.ok
  have hI := hD.inv.ts
  have hSt := hD.inv.st
  have hS := hD.inv.sn
  have hR := hRM.1.2
  have hG := gp_inv hD
  have hb0 := hO.b0
  have hbw := hO.bw
  have hbf : ¬ Fr [] s.heap.size b := fun z => z.elim (fun q => q.elim) (fun q => by omega)
  refine v_aload_n X dL_law_1907 1908 rfl 4 rfl ?_
  refine v_aload_n X dL_law_1908 1909 rfl 5 rfl ?_
  refine v_iload X dL_law_1909 1911 rfl 0 rfl ?_
  refine v_iconst X dL_law_1911 1912 rfl ?_
  refine v_iadd X dL_law_1912 1913 rfl ?_
  refine v_scr X hM hX hbl hbf (by omega) (by omega) hLx ha1 dL_law_1913 1914 rfl ?_
  refine v_aload_n X dL_law_1914 1915 rfl 5 rfl ?_
  refine v_iload X dL_law_1915 1917 rfl 0 rfl ?_
  refine v_iconst X dL_law_1917 1918 rfl ?_
  refine v_iadd X dL_law_1918 1919 rfl ?_
  refine v_scr X hM hX hbl hbf (by omega) (by omega) hLx ha2 dL_law_1919 1920 rfl ?_
  refine v_aload_n X dL_law_1920 1921 rfl 2 rfl ?_
  refine v_mwS X hM (w_X9_agreement l hl E x co hs er fa ss a1 a2 (x + 339) lg hO ga1 ga2 q0 q1 (by omega) (by omega)) kwL_agreement ksL_agreement kl_L_279 (As := [.ref x, .int (zI a1), .int (zI a2), .ref (x + 339)]) rfl rfl (rm_lawW rfl (by omega) (by omega)) dL_law_1921 1924 rfl (k' := kq + 1) (n' := nq + 6) rfl rfl (fsI (fun q q1 q2 => (Or.inr (by omega)))) ⟨h_cm, h_co, h_out⟩ (fun rv H1 lo1 hM hF hpo => ?_)
  obtain ⟨rfl, hw_0⟩ := hpo
  have h_out : PR E (x + 339) [(x + 339, .inl (E 102 4, 1, .inr (.inl (fun _ => zL (sumZ (fun j => co 8 (j * 8 + a1) * co 8 (j * 8 + a2)) (co 0 0).toNat)))))] H1 := hw_0
  replace hzl := Nat.le_trans hzl hF.1
  replace h_cm := h_cm.kept hF 1 rfl (fsd (by omega))
  replace h_co := h_co.kept hF 28 rfl (fsd (by omega))
  replace h_bf := h_bf.kept hF 28 rfl (fsd (by omega))
  replace h_sv := h_sv.kept hF 28 rfl (fsd (by omega))
  replace h_hi := h_hi.kept hF 2 rfl (fsd (by omega))
  replace h_hf := h_hf.kept hF (fsd (by omega))
  replace h_dk := h_dk.kept hF 3 rfl (fsd (by omega))
  replace h_se := h_se.kept hF 5 rfl (fsd (by omega))
  replace h_pg := h_pg.kept hF 1 rfl (fsd (by omega))
  replace h_sb := h_sb.kept hF 1 rfl (fsd (by omega))
  replace h_sa := h_sa.kept hF 1 rfl (fsd (by omega))
  replace h_pr := h_pr.kept hF 10 rfl (fsd (by omega))
  replace h_ln := h_ln.kept hF 1 rfl (fsd (by omega))
  replace h_la := h_la.kept hF 1 rfl (fsd (by omega))
  replace h_mo := h_mo.kept hF 5 rfl (fsd (by omega))
  replace h_outD := h_outD.kept hF 1 rfl (fsd (by omega))
  show V p l e room_1 s m args below meth cd Q 9 H1 lo1 (kq + 1) (nq + 6) 1924 [(5, .int (zI i)), (4, .ref (x + 340)), (3, .ref (x + 339)), (2, .ref (x + 334)), (1, .ref x), (0, .ref b)] [.int (zI 0)]
  refine v_istore X dL_law_1924 1926 rfl (by decide) (L' := [(6, .int (zI 0)), (5, .int (zI i)), (4, .ref (x + 340)), (3, .ref (x + 339)), (2, .ref (x + 334)), (1, .ref x), (0, .ref b)]) rfl ?_
  refine v_aload_n X dL_law_1926 1927 rfl 4 rfl ?_
  refine v_aload_n X dL_law_1927 1928 rfl 6 rfl ?_
  refine v_iload X dL_law_1928 1930 rfl 1 rfl ?_
  refine v_iconst X dL_law_1930 1931 rfl ?_
  refine v_iadd X dL_law_1931 1932 rfl ?_
  refine v_scr X hM hX hbl hbf (by omega) (by omega) hLx ha1 dL_law_1932 1933 rfl ?_
  refine v_aload_n X dL_law_1933 1934 rfl 6 rfl ?_
  refine v_iload X dL_law_1934 1936 rfl 1 rfl ?_
  refine v_iconst X dL_law_1936 1937 rfl ?_
  refine v_iadd X dL_law_1937 1938 rfl ?_
  refine v_scr X hM hX hbl hbf (by omega) (by omega) hLx ha2 dL_law_1938 1939 rfl ?_
  refine v_muV X hM (h_mo.1) (c_X10_agreement l E (x + 334) mo co a1 a2 hO hR hI ga1 ga2 q0 q1) kvX10_agreement kiX10_agreement kl_L_281 (q0 := 0) rfl rfl (As := [.int (zI a1), .int (zI a2)]) rfl rfl (rm_law rfl (by omega) (by omega)) dL_law_1939 1942 rfl (k' := kq + 1) (n' := nq + 6) rfl rfl (fsI (fun q q1 q2 => (Or.inr (by omega)))) h_mo (fun rv H2 lo2 hM hF hpo => ?_)
  obtain ⟨rfl, hw_0⟩ := hpo
  have h_mo : PR E (x + 334) (modelW E (x + 334) (updC mo 0 (updZ (mo 0) 0 0))) H2 := hw_0
  replace hzl := Nat.le_trans hzl hF.1
  replace h_cm := h_cm.kept hF 1 rfl (fsd (by omega))
  replace h_co := h_co.kept hF 28 rfl (fsd (by omega))
  replace h_bf := h_bf.kept hF 28 rfl (fsd (by omega))
  replace h_sv := h_sv.kept hF 28 rfl (fsd (by omega))
  replace h_hi := h_hi.kept hF 2 rfl (fsd (by omega))
  replace h_hf := h_hf.kept hF (fsd (by omega))
  replace h_dk := h_dk.kept hF 3 rfl (fsd (by omega))
  replace h_se := h_se.kept hF 5 rfl (fsd (by omega))
  replace h_pg := h_pg.kept hF 1 rfl (fsd (by omega))
  replace h_sb := h_sb.kept hF 1 rfl (fsd (by omega))
  replace h_sa := h_sa.kept hF 1 rfl (fsd (by omega))
  replace h_pr := h_pr.kept hF 10 rfl (fsd (by omega))
  replace h_ln := h_ln.kept hF 1 rfl (fsd (by omega))
  replace h_la := h_la.kept hF 1 rfl (fsd (by omega))
  replace h_out := h_out.kept hF 1 rfl (fsd (by omega))
  replace h_outD := h_outD.kept hF 1 rfl (fsd (by omega))
  show V p l e room_1 s m args below meth cd Q 9 H2 lo2 (kq + 1) (nq + 6) 1942 [(6, .int (zI 0)), (5, .int (zI i)), (4, .ref (x + 340)), (3, .ref (x + 339)), (2, .ref (x + 334)), (1, .ref x), (0, .ref b)] [.int (zI (sumZ (fun j => co 8 (j * 8 + a1) * co 8 (j * 8 + a2)) (co 0 0).toNat))]
  refine v_istore X dL_law_1942 1944 rfl (by decide) (L' := [(7, .int (zI (sumZ (fun j => co 8 (j * 8 + a1) * co 8 (j * 8 + a2)) (co 0 0).toNat))), (6, .int (zI 0)), (5, .int (zI i)), (4, .ref (x + 340)), (3, .ref (x + 339)), (2, .ref (x + 334)), (1, .ref x), (0, .ref b)]) rfl ?_
  refine v_aload_n X dL_law_1944 1945 rfl 5 rfl ?_
  refine v_rdV X hM.C h_mo.1 (c_X10_thrown l E (x + 334) (updC mo 0 (updZ (mo 0) 0 0))) kvX10_thrown kiX10_thrown kl_L_196 rfl rfl (As := []) rfl rfl (rm_law0 rfl (by omega) (by omega)) dL_law_1945 1948 rfl ?_
  show V p l e room_1 s m args below meth cd Q 9 H2 lo2 (kq + 1) (nq + 6) 1948 [(7, .int (zI (sumZ (fun j => co 8 (j * 8 + a1) * co 8 (j * 8 + a2)) (co 0 0).toNat))), (6, .int (zI 0)), (5, .int (zI i)), (4, .ref (x + 340)), (3, .ref (x + 339)), (2, .ref (x + 334)), (1, .ref x), (0, .ref b)] [.int (zI 0)]
  refine v_iload X dL_law_1948 1950 rfl 1 rfl ?_
  refine v_icmp_eq X (by omega) (by omega) dL_law_1950 1953 1955 rfl (by decide) (fun c_3 => ?_) (fun c_3 => ?_)
  · skip
    refine v_iload X dL_law_1955 1957 rfl 1 rfl ?_
    refine v_if_ne X (by omega) dL_law_1957 1960 1972 rfl (by decide) (fun c_4 => ?_) (fun c_4 => ?_)
    · skip
      exfalso; omega
    · skip
      refine v_aload_n X dL_law_1960 1961 rfl 4 rfl ?_
      refine v_iconst X dL_law_1961 1962 rfl ?_
      refine v_lald X hM.C h_out.1 0 rfl dL_law_1962 1963 rfl ?_
      show V p l e room_1 s m args below meth cd Q 9 H2 lo2 (kq + 1) (nq + 6) 1963 [(7, .int (zI (sumZ (fun j => co 8 (j * 8 + a1) * co 8 (j * 8 + a2)) (co 0 0).toNat))), (6, .int (zI 0)), (5, .int (zI i)), (4, .ref (x + 340)), (3, .ref (x + 339)), (2, .ref (x + 334)), (1, .ref x), (0, .ref b)] [.long (zL (sumZ (fun j => co 8 (j * 8 + a1) * co 8 (j * 8 + a2)) (co 0 0).toNat))]
      refine v_iload X dL_law_1963 1965 rfl 0 rfl ?_
      refine v_i2l X dL_law_1965 1966 rfl ?_
      refine v_lcmp0 X dL_law_1966 1967 rfl ?_
      refine v_if_eq X (by omega) dL_law_1967 1970 1972 rfl (by decide) (fun c_5 => ?_) (fun c_5 => ?_)
      · skip
        refine v_goto X dL_law_1972 3555 (by decide) ?_
        refine v_widen (k' := kq + 60) (n' := nq + 4000) (by omega) (by omega) ?_
        exact V_pick [2, 3, 4, 5, 6, 7] rfl (kk _ _ hM ⟨hzl, _, _, _, _, _, _, _, _, _, _, _, _, _, _, _, _, _, _, _, _, _, _, _, _, _, _, _, _, ⟨h_cm, h_co, h_bf, h_sv, h_hi, h_hf, h_dk, h_se, h_pg, h_sb, h_sa, h_pr, h_ln, h_la, h_mo, h_out, h_outD⟩, hP0.mo_0⟩)
      · skip
        exfalso; omega
  · skip
    exfalso; omega
set_option maxHeartbeats 4000000 in
set_option maxRecDepth 20000 in
theorem lo_agreement_1 (hl : l.stackTraces = false) (X : CF p m cd code 9 s args RL) (hX : va_X b Lx xs s s.heap) (hbl : b < s.heap.size) (hLx : Lx ≤ 2560) (hM : MS E [] s H lo) (hk : kq + 60 ≤ 603072) (hn : nq + 4000 ≤ 7211113) (hx : s.heap.size ≤ x) (hzl : x + 341 ≤ H.size) {v : Nat} {N : Nat} {f : Int → Int} {nn : Int} {v2 : Nat} {N2 : Nat} {f2 : Int → Int} {n2 : Int} {co : Nat → Int → Int} {bf : Nat → Int → Int} {cv : Nat → Int → Int} {hc : Nat → Nat → Int → Int} {nx : Int} {sz : Int} {hs : Int} {er : Int} {fa : Int} {ss : Int} {dk : Nat → Int → Int} {se : Nat → Int → Int} {po : Int} {si : Int} {pr : Nat → Int → Int} {ml : Int} {ml2 : Int} {mo : Nat → Int → Int} {lg : Nat → Int64} {dg : Nat → UInt64} (hW : LawW E x v N f nn v2 N2 f2 n2 co bf cv hc nx sz hs er fa ss dk se po si pr ml ml2 mo lg dg H) (hP : LawP x v N f nn v2 N2 f2 n2 co cv hc nx sz hs er fa ss po si pr mo) (i0 : 0 ≤ i) (i1 : i + 5 ≤ (Lx : Int)) {a1 : Int} (ha1 : (xs (i + 1).toNat).toInt = a1) (ga1 : Rg a1) {a2 : Int} (ha2 : (xs (i + 2).toNat).toInt = a2) (ga2 : Rg a2) (q0 : ¬ (0 ≤ a1 ∧ a1 < co 0 1)) (kk : ∀ (H1 : Heap) (lo1 : List Loc), MS E [] s H1 lo1 → LawI E x H1 → V p l e room_1 s m args below meth cd Q 9 H1 lo1 (kq + 60) (nq + 4000) 3555 [(5, .int (zI i)), (4, .ref (x + 340)), (3, .ref (x + 339)), (2, .ref (x + 334)), (1, .ref x), (0, .ref b)] []) : V p l e room_1 s m args below meth cd Q 9 H lo kq nq 1907 [(5, .int (zI i)), (4, .ref (x + 340)), (3, .ref (x + 339)), (2, .ref (x + 334)), (1, .ref x), (0, .ref b)] [] := by
  obtain ⟨h_cm, h_co, h_bf, h_sv, h_hi, h_hf, h_dk, h_se, h_pg, h_sb, h_sa, h_pr, h_ln, h_la, h_mo, h_out, h_outD⟩ := hW
  have hP0 := hP
  obtain ⟨⟨hD, hDv, hDh⟩, ⟨hRM, hch, hcs⟩, ⟨⟨n0, n1⟩, ⟨s0, s1⟩, hhs⟩, ⟨hm8, hnn, hAg, hNN, hnN, hf9⟩, ⟨T, hSB, hLT, hn38⟩, hPB, ⟨her, hfa, hss, ger, gfa, gss, gms⟩, ⟨gpo, gsi⟩, ⟨hv1, hv2, hvv⟩⟩ := hP
  have hO := hD.inv.ok
  have hI := hD.inv.ts
  have hSt := hD.inv.st
  have hS := hD.inv.sn
  have hR := hRM.1.2
  have hG := gp_inv hD
  have hb0 := hO.b0
  have hbw := hO.bw
  have hbf : ¬ Fr [] s.heap.size b := fun z => z.elim (fun q => q.elim) (fun q => by omega)
  refine v_aload_n X dL_law_1907 1908 rfl 4 rfl ?_
  refine v_aload_n X dL_law_1908 1909 rfl 5 rfl ?_
  refine v_iload X dL_law_1909 1911 rfl 0 rfl ?_
  refine v_iconst X dL_law_1911 1912 rfl ?_
  refine v_iadd X dL_law_1912 1913 rfl ?_
  refine v_scr X hM hX hbl hbf (by omega) (by omega) hLx ha1 dL_law_1913 1914 rfl ?_
  refine v_aload_n X dL_law_1914 1915 rfl 5 rfl ?_
  refine v_iload X dL_law_1915 1917 rfl 0 rfl ?_
  refine v_iconst X dL_law_1917 1918 rfl ?_
  refine v_iadd X dL_law_1918 1919 rfl ?_
  refine v_scr X hM hX hbl hbf (by omega) (by omega) hLx ha2 dL_law_1919 1920 rfl ?_
  refine v_aload_n X dL_law_1920 1921 rfl 2 rfl ?_
  refine v_mwS X hM (w_X9_agreement_0_t l hl E x co hs er fa ss a1 a2 (x + 339) lg hO ga1 ga2 q0) kwL_agreement ksL_agreement kl_L_279 (As := [.ref x, .int (zI a1), .int (zI a2), .ref (x + 339)]) rfl rfl (rm_lawW rfl (by omega) (by omega)) dL_law_1921 1924 rfl (k' := kq + 1) (n' := nq + 6) rfl rfl (fun q hq => hq.elim) ⟨h_cm, h_co, h_out⟩ (fun rv H1 lo1 hM hF hpo => ?_)
  subst hpo
  replace hzl := Nat.le_trans hzl hF.1
  replace h_cm := h_cm.kept hF 1 rfl (fun q _ _ h => h.elim)
  replace h_co := h_co.kept hF 28 rfl (fun q _ _ h => h.elim)
  replace h_bf := h_bf.kept hF 28 rfl (fun q _ _ h => h.elim)
  replace h_sv := h_sv.kept hF 28 rfl (fun q _ _ h => h.elim)
  replace h_hi := h_hi.kept hF 2 rfl (fun q _ _ h => h.elim)
  replace h_hf := h_hf.kept hF (fun q _ _ h => h.elim)
  replace h_dk := h_dk.kept hF 3 rfl (fun q _ _ h => h.elim)
  replace h_se := h_se.kept hF 5 rfl (fun q _ _ h => h.elim)
  replace h_pg := h_pg.kept hF 1 rfl (fun q _ _ h => h.elim)
  replace h_sb := h_sb.kept hF 1 rfl (fun q _ _ h => h.elim)
  replace h_sa := h_sa.kept hF 1 rfl (fun q _ _ h => h.elim)
  replace h_pr := h_pr.kept hF 10 rfl (fun q _ _ h => h.elim)
  replace h_ln := h_ln.kept hF 1 rfl (fun q _ _ h => h.elim)
  replace h_la := h_la.kept hF 1 rfl (fun q _ _ h => h.elim)
  replace h_mo := h_mo.kept hF 5 rfl (fun q _ _ h => h.elim)
  replace h_out := h_out.kept hF 1 rfl (fun q _ _ h => h.elim)
  replace h_outD := h_outD.kept hF 1 rfl (fun q _ _ h => h.elim)
  show V p l e room_1 s m args below meth cd Q 9 H1 lo1 (kq + 1) (nq + 6) 1924 [(5, .int (zI i)), (4, .ref (x + 340)), (3, .ref (x + 339)), (2, .ref (x + 334)), (1, .ref x), (0, .ref b)] [.int (zI 1)]
  refine v_istore X dL_law_1924 1926 rfl (by decide) (L' := [(6, .int (zI 1)), (5, .int (zI i)), (4, .ref (x + 340)), (3, .ref (x + 339)), (2, .ref (x + 334)), (1, .ref x), (0, .ref b)]) rfl ?_
  refine v_aload_n X dL_law_1926 1927 rfl 4 rfl ?_
  refine v_aload_n X dL_law_1927 1928 rfl 6 rfl ?_
  refine v_iload X dL_law_1928 1930 rfl 1 rfl ?_
  refine v_iconst X dL_law_1930 1931 rfl ?_
  refine v_iadd X dL_law_1931 1932 rfl ?_
  refine v_scr X hM hX hbl hbf (by omega) (by omega) hLx ha1 dL_law_1932 1933 rfl ?_
  refine v_aload_n X dL_law_1933 1934 rfl 6 rfl ?_
  refine v_iload X dL_law_1934 1936 rfl 1 rfl ?_
  refine v_iconst X dL_law_1936 1937 rfl ?_
  refine v_iadd X dL_law_1937 1938 rfl ?_
  refine v_scr X hM hX hbl hbf (by omega) (by omega) hLx ha2 dL_law_1938 1939 rfl ?_
  refine v_muV X hM (h_mo.1) (c_X10_agreement_0 l E (x + 334) mo co a1 a2 hO hR hI ga1 ga2 q0) kvX10_agreement kiX10_agreement kl_L_281 (q0 := 0) rfl rfl (As := [.int (zI a1), .int (zI a2)]) rfl rfl (rm_law rfl (by omega) (by omega)) dL_law_1939 1942 rfl (k' := kq + 1) (n' := nq + 6) rfl rfl (fsI (fun q q1 q2 => (Or.inr (by omega)))) h_mo (fun rv H2 lo2 hM hF hpo => ?_)
  obtain ⟨rfl, hw_0⟩ := hpo
  have h_mo : PR E (x + 334) (modelW E (x + 334) (updC mo 0 (updZ (mo 0) 0 1))) H2 := hw_0
  replace hzl := Nat.le_trans hzl hF.1
  replace h_cm := h_cm.kept hF 1 rfl (fsd (by omega))
  replace h_co := h_co.kept hF 28 rfl (fsd (by omega))
  replace h_bf := h_bf.kept hF 28 rfl (fsd (by omega))
  replace h_sv := h_sv.kept hF 28 rfl (fsd (by omega))
  replace h_hi := h_hi.kept hF 2 rfl (fsd (by omega))
  replace h_hf := h_hf.kept hF (fsd (by omega))
  replace h_dk := h_dk.kept hF 3 rfl (fsd (by omega))
  replace h_se := h_se.kept hF 5 rfl (fsd (by omega))
  replace h_pg := h_pg.kept hF 1 rfl (fsd (by omega))
  replace h_sb := h_sb.kept hF 1 rfl (fsd (by omega))
  replace h_sa := h_sa.kept hF 1 rfl (fsd (by omega))
  replace h_pr := h_pr.kept hF 10 rfl (fsd (by omega))
  replace h_ln := h_ln.kept hF 1 rfl (fsd (by omega))
  replace h_la := h_la.kept hF 1 rfl (fsd (by omega))
  replace h_out := h_out.kept hF 1 rfl (fsd (by omega))
  replace h_outD := h_outD.kept hF 1 rfl (fsd (by omega))
  show V p l e room_1 s m args below meth cd Q 9 H2 lo2 (kq + 1) (nq + 6) 1942 [(6, .int (zI 1)), (5, .int (zI i)), (4, .ref (x + 340)), (3, .ref (x + 339)), (2, .ref (x + 334)), (1, .ref x), (0, .ref b)] [.int (zI 0)]
  refine v_istore X dL_law_1942 1944 rfl (by decide) (L' := [(7, .int (zI 0)), (6, .int (zI 1)), (5, .int (zI i)), (4, .ref (x + 340)), (3, .ref (x + 339)), (2, .ref (x + 334)), (1, .ref x), (0, .ref b)]) rfl ?_
  refine v_aload_n X dL_law_1944 1945 rfl 5 rfl ?_
  refine v_rdV X hM.C h_mo.1 (c_X10_thrown l E (x + 334) (updC mo 0 (updZ (mo 0) 0 1))) kvX10_thrown kiX10_thrown kl_L_196 rfl rfl (As := []) rfl rfl (rm_law0 rfl (by omega) (by omega)) dL_law_1945 1948 rfl ?_
  show V p l e room_1 s m args below meth cd Q 9 H2 lo2 (kq + 1) (nq + 6) 1948 [(7, .int (zI 0)), (6, .int (zI 1)), (5, .int (zI i)), (4, .ref (x + 340)), (3, .ref (x + 339)), (2, .ref (x + 334)), (1, .ref x), (0, .ref b)] [.int (zI 1)]
  refine v_iload X dL_law_1948 1950 rfl 1 rfl ?_
  refine v_icmp_eq X (by omega) (by omega) dL_law_1950 1953 1955 rfl (by decide) (fun c_3 => ?_) (fun c_3 => ?_)
  · skip
    refine v_iload X dL_law_1955 1957 rfl 1 rfl ?_
    refine v_if_ne X (by omega) dL_law_1957 1960 1972 rfl (by decide) (fun c_4 => ?_) (fun c_4 => ?_)
    · skip
      refine v_goto X dL_law_1972 3555 (by decide) ?_
      refine v_widen (k' := kq + 60) (n' := nq + 4000) (by omega) (by omega) ?_
      exact V_pick [2, 3, 4, 5, 6, 7] rfl (kk _ _ hM ⟨hzl, _, _, _, _, _, _, _, _, _, _, _, _, _, _, _, _, _, _, _, _, _, _, _, _, _, _, _, _, ⟨h_cm, h_co, h_bf, h_sv, h_hi, h_hf, h_dk, h_se, h_pg, h_sb, h_sa, h_pr, h_ln, h_la, h_mo, h_out, h_outD⟩, hP0.mo_0⟩)
    · skip
      exfalso; omega
  · skip
    exfalso; omega
set_option maxHeartbeats 4000000 in
set_option maxRecDepth 20000 in
theorem lo_agreement_2 (hl : l.stackTraces = false) (X : CF p m cd code 9 s args RL) (hX : va_X b Lx xs s s.heap) (hbl : b < s.heap.size) (hLx : Lx ≤ 2560) (hM : MS E [] s H lo) (hk : kq + 60 ≤ 603072) (hn : nq + 4000 ≤ 7211113) (hx : s.heap.size ≤ x) (hzl : x + 341 ≤ H.size) {v : Nat} {N : Nat} {f : Int → Int} {nn : Int} {v2 : Nat} {N2 : Nat} {f2 : Int → Int} {n2 : Int} {co : Nat → Int → Int} {bf : Nat → Int → Int} {cv : Nat → Int → Int} {hc : Nat → Nat → Int → Int} {nx : Int} {sz : Int} {hs : Int} {er : Int} {fa : Int} {ss : Int} {dk : Nat → Int → Int} {se : Nat → Int → Int} {po : Int} {si : Int} {pr : Nat → Int → Int} {ml : Int} {ml2 : Int} {mo : Nat → Int → Int} {lg : Nat → Int64} {dg : Nat → UInt64} (hW : LawW E x v N f nn v2 N2 f2 n2 co bf cv hc nx sz hs er fa ss dk se po si pr ml ml2 mo lg dg H) (hP : LawP x v N f nn v2 N2 f2 n2 co cv hc nx sz hs er fa ss po si pr mo) (i0 : 0 ≤ i) (i1 : i + 5 ≤ (Lx : Int)) {a1 : Int} (ha1 : (xs (i + 1).toNat).toInt = a1) (ga1 : Rg a1) {a2 : Int} (ha2 : (xs (i + 2).toNat).toInt = a2) (ga2 : Rg a2) (q0 : 0 ≤ a1 ∧ a1 < co 0 1) (q1 : ¬ (0 ≤ a2 ∧ a2 < co 0 1)) (kk : ∀ (H1 : Heap) (lo1 : List Loc), MS E [] s H1 lo1 → LawI E x H1 → V p l e room_1 s m args below meth cd Q 9 H1 lo1 (kq + 60) (nq + 4000) 3555 [(5, .int (zI i)), (4, .ref (x + 340)), (3, .ref (x + 339)), (2, .ref (x + 334)), (1, .ref x), (0, .ref b)] []) : V p l e room_1 s m args below meth cd Q 9 H lo kq nq 1907 [(5, .int (zI i)), (4, .ref (x + 340)), (3, .ref (x + 339)), (2, .ref (x + 334)), (1, .ref x), (0, .ref b)] [] := by
  obtain ⟨h_cm, h_co, h_bf, h_sv, h_hi, h_hf, h_dk, h_se, h_pg, h_sb, h_sa, h_pr, h_ln, h_la, h_mo, h_out, h_outD⟩ := hW
  have hP0 := hP
  obtain ⟨⟨hD, hDv, hDh⟩, ⟨hRM, hch, hcs⟩, ⟨⟨n0, n1⟩, ⟨s0, s1⟩, hhs⟩, ⟨hm8, hnn, hAg, hNN, hnN, hf9⟩, ⟨T, hSB, hLT, hn38⟩, hPB, ⟨her, hfa, hss, ger, gfa, gss, gms⟩, ⟨gpo, gsi⟩, ⟨hv1, hv2, hvv⟩⟩ := hP
  have hO := hD.inv.ok
  have hI := hD.inv.ts
  have hSt := hD.inv.st
  have hS := hD.inv.sn
  have hR := hRM.1.2
  have hG := gp_inv hD
  have hb0 := hO.b0
  have hbw := hO.bw
  have hbf : ¬ Fr [] s.heap.size b := fun z => z.elim (fun q => q.elim) (fun q => by omega)
  refine v_aload_n X dL_law_1907 1908 rfl 4 rfl ?_
  refine v_aload_n X dL_law_1908 1909 rfl 5 rfl ?_
  refine v_iload X dL_law_1909 1911 rfl 0 rfl ?_
  refine v_iconst X dL_law_1911 1912 rfl ?_
  refine v_iadd X dL_law_1912 1913 rfl ?_
  refine v_scr X hM hX hbl hbf (by omega) (by omega) hLx ha1 dL_law_1913 1914 rfl ?_
  refine v_aload_n X dL_law_1914 1915 rfl 5 rfl ?_
  refine v_iload X dL_law_1915 1917 rfl 0 rfl ?_
  refine v_iconst X dL_law_1917 1918 rfl ?_
  refine v_iadd X dL_law_1918 1919 rfl ?_
  refine v_scr X hM hX hbl hbf (by omega) (by omega) hLx ha2 dL_law_1919 1920 rfl ?_
  refine v_aload_n X dL_law_1920 1921 rfl 2 rfl ?_
  refine v_mwS X hM (w_X9_agreement_1_t l hl E x co hs er fa ss a1 a2 (x + 339) lg hO ga1 ga2 q0 q1) kwL_agreement ksL_agreement kl_L_279 (As := [.ref x, .int (zI a1), .int (zI a2), .ref (x + 339)]) rfl rfl (rm_lawW rfl (by omega) (by omega)) dL_law_1921 1924 rfl (k' := kq + 1) (n' := nq + 6) rfl rfl (fun q hq => hq.elim) ⟨h_cm, h_co, h_out⟩ (fun rv H1 lo1 hM hF hpo => ?_)
  subst hpo
  replace hzl := Nat.le_trans hzl hF.1
  replace h_cm := h_cm.kept hF 1 rfl (fun q _ _ h => h.elim)
  replace h_co := h_co.kept hF 28 rfl (fun q _ _ h => h.elim)
  replace h_bf := h_bf.kept hF 28 rfl (fun q _ _ h => h.elim)
  replace h_sv := h_sv.kept hF 28 rfl (fun q _ _ h => h.elim)
  replace h_hi := h_hi.kept hF 2 rfl (fun q _ _ h => h.elim)
  replace h_hf := h_hf.kept hF (fun q _ _ h => h.elim)
  replace h_dk := h_dk.kept hF 3 rfl (fun q _ _ h => h.elim)
  replace h_se := h_se.kept hF 5 rfl (fun q _ _ h => h.elim)
  replace h_pg := h_pg.kept hF 1 rfl (fun q _ _ h => h.elim)
  replace h_sb := h_sb.kept hF 1 rfl (fun q _ _ h => h.elim)
  replace h_sa := h_sa.kept hF 1 rfl (fun q _ _ h => h.elim)
  replace h_pr := h_pr.kept hF 10 rfl (fun q _ _ h => h.elim)
  replace h_ln := h_ln.kept hF 1 rfl (fun q _ _ h => h.elim)
  replace h_la := h_la.kept hF 1 rfl (fun q _ _ h => h.elim)
  replace h_mo := h_mo.kept hF 5 rfl (fun q _ _ h => h.elim)
  replace h_out := h_out.kept hF 1 rfl (fun q _ _ h => h.elim)
  replace h_outD := h_outD.kept hF 1 rfl (fun q _ _ h => h.elim)
  show V p l e room_1 s m args below meth cd Q 9 H1 lo1 (kq + 1) (nq + 6) 1924 [(5, .int (zI i)), (4, .ref (x + 340)), (3, .ref (x + 339)), (2, .ref (x + 334)), (1, .ref x), (0, .ref b)] [.int (zI 1)]
  refine v_istore X dL_law_1924 1926 rfl (by decide) (L' := [(6, .int (zI 1)), (5, .int (zI i)), (4, .ref (x + 340)), (3, .ref (x + 339)), (2, .ref (x + 334)), (1, .ref x), (0, .ref b)]) rfl ?_
  refine v_aload_n X dL_law_1926 1927 rfl 4 rfl ?_
  refine v_aload_n X dL_law_1927 1928 rfl 6 rfl ?_
  refine v_iload X dL_law_1928 1930 rfl 1 rfl ?_
  refine v_iconst X dL_law_1930 1931 rfl ?_
  refine v_iadd X dL_law_1931 1932 rfl ?_
  refine v_scr X hM hX hbl hbf (by omega) (by omega) hLx ha1 dL_law_1932 1933 rfl ?_
  refine v_aload_n X dL_law_1933 1934 rfl 6 rfl ?_
  refine v_iload X dL_law_1934 1936 rfl 1 rfl ?_
  refine v_iconst X dL_law_1936 1937 rfl ?_
  refine v_iadd X dL_law_1937 1938 rfl ?_
  refine v_scr X hM hX hbl hbf (by omega) (by omega) hLx ha2 dL_law_1938 1939 rfl ?_
  refine v_muV X hM (h_mo.1) (c_X10_agreement_1 l E (x + 334) mo co a1 a2 hO hR hI ga1 ga2 q0 q1) kvX10_agreement kiX10_agreement kl_L_281 (q0 := 0) rfl rfl (As := [.int (zI a1), .int (zI a2)]) rfl rfl (rm_law rfl (by omega) (by omega)) dL_law_1939 1942 rfl (k' := kq + 1) (n' := nq + 6) rfl rfl (fsI (fun q q1 q2 => (Or.inr (by omega)))) h_mo (fun rv H2 lo2 hM hF hpo => ?_)
  obtain ⟨rfl, hw_0⟩ := hpo
  have h_mo : PR E (x + 334) (modelW E (x + 334) (updC mo 0 (updZ (mo 0) 0 1))) H2 := hw_0
  replace hzl := Nat.le_trans hzl hF.1
  replace h_cm := h_cm.kept hF 1 rfl (fsd (by omega))
  replace h_co := h_co.kept hF 28 rfl (fsd (by omega))
  replace h_bf := h_bf.kept hF 28 rfl (fsd (by omega))
  replace h_sv := h_sv.kept hF 28 rfl (fsd (by omega))
  replace h_hi := h_hi.kept hF 2 rfl (fsd (by omega))
  replace h_hf := h_hf.kept hF (fsd (by omega))
  replace h_dk := h_dk.kept hF 3 rfl (fsd (by omega))
  replace h_se := h_se.kept hF 5 rfl (fsd (by omega))
  replace h_pg := h_pg.kept hF 1 rfl (fsd (by omega))
  replace h_sb := h_sb.kept hF 1 rfl (fsd (by omega))
  replace h_sa := h_sa.kept hF 1 rfl (fsd (by omega))
  replace h_pr := h_pr.kept hF 10 rfl (fsd (by omega))
  replace h_ln := h_ln.kept hF 1 rfl (fsd (by omega))
  replace h_la := h_la.kept hF 1 rfl (fsd (by omega))
  replace h_out := h_out.kept hF 1 rfl (fsd (by omega))
  replace h_outD := h_outD.kept hF 1 rfl (fsd (by omega))
  show V p l e room_1 s m args below meth cd Q 9 H2 lo2 (kq + 1) (nq + 6) 1942 [(6, .int (zI 1)), (5, .int (zI i)), (4, .ref (x + 340)), (3, .ref (x + 339)), (2, .ref (x + 334)), (1, .ref x), (0, .ref b)] [.int (zI 0)]
  refine v_istore X dL_law_1942 1944 rfl (by decide) (L' := [(7, .int (zI 0)), (6, .int (zI 1)), (5, .int (zI i)), (4, .ref (x + 340)), (3, .ref (x + 339)), (2, .ref (x + 334)), (1, .ref x), (0, .ref b)]) rfl ?_
  refine v_aload_n X dL_law_1944 1945 rfl 5 rfl ?_
  refine v_rdV X hM.C h_mo.1 (c_X10_thrown l E (x + 334) (updC mo 0 (updZ (mo 0) 0 1))) kvX10_thrown kiX10_thrown kl_L_196 rfl rfl (As := []) rfl rfl (rm_law0 rfl (by omega) (by omega)) dL_law_1945 1948 rfl ?_
  show V p l e room_1 s m args below meth cd Q 9 H2 lo2 (kq + 1) (nq + 6) 1948 [(7, .int (zI 0)), (6, .int (zI 1)), (5, .int (zI i)), (4, .ref (x + 340)), (3, .ref (x + 339)), (2, .ref (x + 334)), (1, .ref x), (0, .ref b)] [.int (zI 1)]
  refine v_iload X dL_law_1948 1950 rfl 1 rfl ?_
  refine v_icmp_eq X (by omega) (by omega) dL_law_1950 1953 1955 rfl (by decide) (fun c_3 => ?_) (fun c_3 => ?_)
  · skip
    refine v_iload X dL_law_1955 1957 rfl 1 rfl ?_
    refine v_if_ne X (by omega) dL_law_1957 1960 1972 rfl (by decide) (fun c_4 => ?_) (fun c_4 => ?_)
    · skip
      refine v_goto X dL_law_1972 3555 (by decide) ?_
      refine v_widen (k' := kq + 60) (n' := nq + 4000) (by omega) (by omega) ?_
      exact V_pick [2, 3, 4, 5, 6, 7] rfl (kk _ _ hM ⟨hzl, _, _, _, _, _, _, _, _, _, _, _, _, _, _, _, _, _, _, _, _, _, _, _, _, _, _, _, _, ⟨h_cm, h_co, h_bf, h_sv, h_hi, h_hf, h_dk, h_se, h_pg, h_sb, h_sa, h_pr, h_ln, h_la, h_mo, h_out, h_outD⟩, hP0.mo_0⟩)
    · skip
      exfalso; omega
  · skip
    exfalso; omega
set_option maxHeartbeats 4000000 in
set_option maxRecDepth 20000 in
theorem lo_areConnected (hl : l.stackTraces = false) (X : CF p m cd code 9 s args RL) (hX : va_X b Lx xs s s.heap) (hbl : b < s.heap.size) (hLx : Lx ≤ 2560) (hM : MS E [] s H lo) (hk : kq + 60 ≤ 603072) (hn : nq + 4000 ≤ 7211113) (hx : s.heap.size ≤ x) (hzl : x + 341 ≤ H.size) {v : Nat} {N : Nat} {f : Int → Int} {nn : Int} {v2 : Nat} {N2 : Nat} {f2 : Int → Int} {n2 : Int} {co : Nat → Int → Int} {bf : Nat → Int → Int} {cv : Nat → Int → Int} {hc : Nat → Nat → Int → Int} {nx : Int} {sz : Int} {hs : Int} {er : Int} {fa : Int} {ss : Int} {dk : Nat → Int → Int} {se : Nat → Int → Int} {po : Int} {si : Int} {pr : Nat → Int → Int} {ml : Int} {ml2 : Int} {mo : Nat → Int → Int} {lg : Nat → Int64} {dg : Nat → UInt64} (hW : LawW E x v N f nn v2 N2 f2 n2 co bf cv hc nx sz hs er fa ss dk se po si pr ml ml2 mo lg dg H) (hP : LawP x v N f nn v2 N2 f2 n2 co cv hc nx sz hs er fa ss po si pr mo) (i0 : 0 ≤ i) (i1 : i + 5 ≤ (Lx : Int)) {a1 : Int} (ha1 : (xs (i + 1).toNat).toInt = a1) (ga1 : Rg a1) {a2 : Int} (ha2 : (xs (i + 2).toNat).toInt = a2) (ga2 : Rg a2) (q0 : 0 ≤ a1 ∧ a1 < co 0 1) (q1 : 0 ≤ a2 ∧ a2 < co 0 1) (kk : ∀ (H1 : Heap) (lo1 : List Loc), MS E [] s H1 lo1 → LawI E x H1 → V p l e room_1 s m args below meth cd Q 9 H1 lo1 (kq + 60) (nq + 4000) 3555 [(5, .int (zI i)), (4, .ref (x + 340)), (3, .ref (x + 339)), (2, .ref (x + 334)), (1, .ref x), (0, .ref b)] []) : V p l e room_1 s m args below meth cd Q 9 H lo kq nq 1975 [(5, .int (zI i)), (4, .ref (x + 340)), (3, .ref (x + 339)), (2, .ref (x + 334)), (1, .ref x), (0, .ref b)] [] := by
  obtain ⟨h_cm, h_co, h_bf, h_sv, h_hi, h_hf, h_dk, h_se, h_pg, h_sb, h_sa, h_pr, h_ln, h_la, h_mo, h_out, h_outD⟩ := hW
  have hP0 := hP
  obtain ⟨⟨hD, hDv, hDh⟩, ⟨hRM, hch, hcs⟩, ⟨⟨n0, n1⟩, ⟨s0, s1⟩, hhs⟩, ⟨hm8, hnn, hAg, hNN, hnN, hf9⟩, ⟨T, hSB, hLT, hn38⟩, hPB, ⟨her, hfa, hss, ger, gfa, gss, gms⟩, ⟨gpo, gsi⟩, ⟨hv1, hv2, hvv⟩⟩ := hP
  have hO := hD.inv.ok
  have hI := hD.inv.ts
  have hSt := hD.inv.st
  have hS := hD.inv.sn
  have hR := hRM.1.2
  have hG := gp_inv hD
  have hb0 := hO.b0
  have hbw := hO.bw
  have hbf : ¬ Fr [] s.heap.size b := fun z => z.elim (fun q => q.elim) (fun q => by omega)
  refine v_aload_n X dL_law_1975 1976 rfl 4 rfl ?_
  refine v_aload_n X dL_law_1976 1977 rfl 5 rfl ?_
  refine v_iload X dL_law_1977 1979 rfl 0 rfl ?_
  refine v_iconst X dL_law_1979 1980 rfl ?_
  refine v_iadd X dL_law_1980 1981 rfl ?_
  refine v_scr X hM hX hbl hbf (by omega) (by omega) hLx ha1 dL_law_1981 1982 rfl ?_
  refine v_aload_n X dL_law_1982 1983 rfl 5 rfl ?_
  refine v_iload X dL_law_1983 1985 rfl 0 rfl ?_
  refine v_iconst X dL_law_1985 1986 rfl ?_
  refine v_iadd X dL_law_1986 1987 rfl ?_
  refine v_scr X hM hX hbl hbf (by omega) (by omega) hLx ha2 dL_law_1987 1988 rfl ?_
  refine v_aload_n X dL_law_1988 1989 rfl 2 rfl ?_
  refine v_mwS X hM (w_X9_areConnected l hl E x co hs er fa ss a1 a2 (x + 339) lg hO ga1 ga2 q0 q1 (by omega) (by omega)) kwL_areConnected ksL_areConnected kl_L_282 (As := [.ref x, .int (zI a1), .int (zI a2), .ref (x + 339)]) rfl rfl (rm_lawW rfl (by omega) (by omega)) dL_law_1989 1992 rfl (k' := kq + 1) (n' := nq + 6) rfl rfl (fsI (fun q q1 q2 => (Or.inr (by omega)))) ⟨h_cm, h_co, h_out⟩ (fun rv H1 lo1 hM hF hpo => ?_)
  obtain ⟨rfl, hw_0⟩ := hpo
  have h_out : PR E (x + 339) [(x + 339, .inl (E 102 4, 1, .inr (.inl (fun _ => zL (bz (rtF ((co 13)) 8 a1 = rtF ((co 13)) 8 a2))))))] H1 := hw_0
  replace hzl := Nat.le_trans hzl hF.1
  replace h_cm := h_cm.kept hF 1 rfl (fsd (by omega))
  replace h_co := h_co.kept hF 28 rfl (fsd (by omega))
  replace h_bf := h_bf.kept hF 28 rfl (fsd (by omega))
  replace h_sv := h_sv.kept hF 28 rfl (fsd (by omega))
  replace h_hi := h_hi.kept hF 2 rfl (fsd (by omega))
  replace h_hf := h_hf.kept hF (fsd (by omega))
  replace h_dk := h_dk.kept hF 3 rfl (fsd (by omega))
  replace h_se := h_se.kept hF 5 rfl (fsd (by omega))
  replace h_pg := h_pg.kept hF 1 rfl (fsd (by omega))
  replace h_sb := h_sb.kept hF 1 rfl (fsd (by omega))
  replace h_sa := h_sa.kept hF 1 rfl (fsd (by omega))
  replace h_pr := h_pr.kept hF 10 rfl (fsd (by omega))
  replace h_ln := h_ln.kept hF 1 rfl (fsd (by omega))
  replace h_la := h_la.kept hF 1 rfl (fsd (by omega))
  replace h_mo := h_mo.kept hF 5 rfl (fsd (by omega))
  replace h_outD := h_outD.kept hF 1 rfl (fsd (by omega))
  show V p l e room_1 s m args below meth cd Q 9 H1 lo1 (kq + 1) (nq + 6) 1992 [(5, .int (zI i)), (4, .ref (x + 340)), (3, .ref (x + 339)), (2, .ref (x + 334)), (1, .ref x), (0, .ref b)] [.int (zI 0)]
  refine v_istore X dL_law_1992 1994 rfl (by decide) (L' := [(6, .int (zI 0)), (5, .int (zI i)), (4, .ref (x + 340)), (3, .ref (x + 339)), (2, .ref (x + 334)), (1, .ref x), (0, .ref b)]) rfl ?_
  refine v_aload_n X dL_law_1994 1995 rfl 4 rfl ?_
  refine v_aload_n X dL_law_1995 1996 rfl 6 rfl ?_
  refine v_iload X dL_law_1996 1998 rfl 1 rfl ?_
  refine v_iconst X dL_law_1998 1999 rfl ?_
  refine v_iadd X dL_law_1999 2000 rfl ?_
  refine v_scr X hM hX hbl hbf (by omega) (by omega) hLx ha1 dL_law_2000 2001 rfl ?_
  refine v_aload_n X dL_law_2001 2002 rfl 6 rfl ?_
  refine v_iload X dL_law_2002 2004 rfl 1 rfl ?_
  refine v_iconst X dL_law_2004 2005 rfl ?_
  refine v_iadd X dL_law_2005 2006 rfl ?_
  refine v_scr X hM hX hbl hbf (by omega) (by omega) hLx ha2 dL_law_2006 2007 rfl ?_
  refine v_muV X hM (h_mo.1) (c_X10_areConnected l E (x + 334) mo co a1 a2 hO hR hI hG ga1 ga2 q0 q1) kvX10_areConnected kiX10_areConnected kl_L_284 (q0 := 0) rfl rfl (As := [.int (zI a1), .int (zI a2)]) rfl rfl (rm_law rfl (by omega) (by omega)) dL_law_2007 2010 rfl (k' := kq + 1) (n' := nq + 6) rfl rfl (fsI (fun q q1 q2 => (Or.inr (by omega)))) h_mo (fun rv H2 lo2 hM hF hpo => ?_)
  obtain ⟨rfl, hw_0⟩ := hpo
  have h_mo : PR E (x + 334) (modelW E (x + 334) (updC mo 0 (updZ (mo 0) 0 0))) H2 := hw_0
  replace hzl := Nat.le_trans hzl hF.1
  replace h_cm := h_cm.kept hF 1 rfl (fsd (by omega))
  replace h_co := h_co.kept hF 28 rfl (fsd (by omega))
  replace h_bf := h_bf.kept hF 28 rfl (fsd (by omega))
  replace h_sv := h_sv.kept hF 28 rfl (fsd (by omega))
  replace h_hi := h_hi.kept hF 2 rfl (fsd (by omega))
  replace h_hf := h_hf.kept hF (fsd (by omega))
  replace h_dk := h_dk.kept hF 3 rfl (fsd (by omega))
  replace h_se := h_se.kept hF 5 rfl (fsd (by omega))
  replace h_pg := h_pg.kept hF 1 rfl (fsd (by omega))
  replace h_sb := h_sb.kept hF 1 rfl (fsd (by omega))
  replace h_sa := h_sa.kept hF 1 rfl (fsd (by omega))
  replace h_pr := h_pr.kept hF 10 rfl (fsd (by omega))
  replace h_ln := h_ln.kept hF 1 rfl (fsd (by omega))
  replace h_la := h_la.kept hF 1 rfl (fsd (by omega))
  replace h_out := h_out.kept hF 1 rfl (fsd (by omega))
  replace h_outD := h_outD.kept hF 1 rfl (fsd (by omega))
  show V p l e room_1 s m args below meth cd Q 9 H2 lo2 (kq + 1) (nq + 6) 2010 [(6, .int (zI 0)), (5, .int (zI i)), (4, .ref (x + 340)), (3, .ref (x + 339)), (2, .ref (x + 334)), (1, .ref x), (0, .ref b)] [.int (zI (bz (rtF (co 13) 8 a1 = rtF (co 13) 8 a2)))]
  refine v_istore X dL_law_2010 2012 rfl (by decide) (L' := [(7, .int (zI (bz (rtF (co 13) 8 a1 = rtF (co 13) 8 a2)))), (6, .int (zI 0)), (5, .int (zI i)), (4, .ref (x + 340)), (3, .ref (x + 339)), (2, .ref (x + 334)), (1, .ref x), (0, .ref b)]) rfl ?_
  refine v_aload_n X dL_law_2012 2013 rfl 5 rfl ?_
  refine v_rdV X hM.C h_mo.1 (c_X10_thrown l E (x + 334) (updC mo 0 (updZ (mo 0) 0 0))) kvX10_thrown kiX10_thrown kl_L_196 rfl rfl (As := []) rfl rfl (rm_law0 rfl (by omega) (by omega)) dL_law_2013 2016 rfl ?_
  show V p l e room_1 s m args below meth cd Q 9 H2 lo2 (kq + 1) (nq + 6) 2016 [(7, .int (zI (bz (rtF (co 13) 8 a1 = rtF (co 13) 8 a2)))), (6, .int (zI 0)), (5, .int (zI i)), (4, .ref (x + 340)), (3, .ref (x + 339)), (2, .ref (x + 334)), (1, .ref x), (0, .ref b)] [.int (zI 0)]
  refine v_iload X dL_law_2016 2018 rfl 1 rfl ?_
  refine v_icmp_eq X (by omega) (by omega) dL_law_2018 2021 2023 rfl (by decide) (fun c_3 => ?_) (fun c_3 => ?_)
  · skip
    refine v_iload X dL_law_2023 2025 rfl 1 rfl ?_
    refine v_if_ne X (by omega) dL_law_2025 2028 2047 rfl (by decide) (fun c_4 => ?_) (fun c_4 => ?_)
    · skip
      exfalso; omega
    · skip
      refine v_aload_n X dL_law_2028 2029 rfl 4 rfl ?_
      refine v_iconst X dL_law_2029 2030 rfl ?_
      refine v_lald X hM.C h_out.1 0 rfl dL_law_2030 2031 rfl ?_
      show V p l e room_1 s m args below meth cd Q 9 H2 lo2 (kq + 1) (nq + 6) 2031 [(7, .int (zI (bz (rtF (co 13) 8 a1 = rtF (co 13) 8 a2)))), (6, .int (zI 0)), (5, .int (zI i)), (4, .ref (x + 340)), (3, .ref (x + 339)), (2, .ref (x + 334)), (1, .ref x), (0, .ref b)] [.long (zL (bz (rtF (co 13) 8 a1 = rtF (co 13) 8 a2)))]
      refine v_iload X dL_law_2031 2033 rfl 0 rfl ?_
      refine v_bif_eq X dL_law_2033 2036 2040 rfl (by decide) (fun c_5 => ?_) (fun c_5 => ?_)
      · skip
        refine v_lconst 0 X dL_law_2040 rfl 2041 rfl ?_
        refine V_S (st' := [.long (zL 0), .long (zL 0)]) (by rw [show (bz (rtF (co 13) 8 a1 = rtF (co 13) 8 a2) : Int) = 0 from bz_f (by first | assumption | omega)]) ?_
        refine v_lcmp0 X dL_law_2041 2042 rfl ?_
        refine v_if_eq X (by omega) dL_law_2042 2045 2047 rfl (by decide) (fun c_6 => ?_) (fun c_6 => ?_)
        · skip
          refine v_goto X dL_law_2047 3555 (by decide) ?_
          refine v_widen (k' := kq + 60) (n' := nq + 4000) (by omega) (by omega) ?_
          exact V_pick [2, 3, 4, 5, 6, 7] rfl (kk _ _ hM ⟨hzl, _, _, _, _, _, _, _, _, _, _, _, _, _, _, _, _, _, _, _, _, _, _, _, _, _, _, _, _, ⟨h_cm, h_co, h_bf, h_sv, h_hi, h_hf, h_dk, h_se, h_pg, h_sb, h_sa, h_pr, h_ln, h_la, h_mo, h_out, h_outD⟩, hP0.mo_0⟩)
        · skip
          exfalso; omega
      · skip
        refine v_lconst 1 X dL_law_2036 rfl 2037 rfl ?_
        refine v_goto X dL_law_2037 2041 (by decide) ?_
        refine V_S (st' := [.long (zL 1), .long (zL 1)]) (by rw [show (bz (rtF (co 13) 8 a1 = rtF (co 13) 8 a2) : Int) = 1 from bz_t (by first | assumption | omega)]) ?_
        refine v_lcmp0 X dL_law_2041 2042 rfl ?_
        refine v_if_eq X (by omega) dL_law_2042 2045 2047 rfl (by decide) (fun c_7 => ?_) (fun c_7 => ?_)
        · skip
          refine v_goto X dL_law_2047 3555 (by decide) ?_
          refine v_widen (k' := kq + 60) (n' := nq + 4000) (by omega) (by omega) ?_
          exact V_pick [2, 3, 4, 5, 6, 7] rfl (kk _ _ hM ⟨hzl, _, _, _, _, _, _, _, _, _, _, _, _, _, _, _, _, _, _, _, _, _, _, _, _, _, _, _, _, ⟨h_cm, h_co, h_bf, h_sv, h_hi, h_hf, h_dk, h_se, h_pg, h_sb, h_sa, h_pr, h_ln, h_la, h_mo, h_out, h_outD⟩, hP0.mo_0⟩)
        · skip
          exfalso; omega
  · skip
    exfalso; omega
set_option maxHeartbeats 4000000 in
set_option maxRecDepth 20000 in
theorem lo_areConnected_1 (hl : l.stackTraces = false) (X : CF p m cd code 9 s args RL) (hX : va_X b Lx xs s s.heap) (hbl : b < s.heap.size) (hLx : Lx ≤ 2560) (hM : MS E [] s H lo) (hk : kq + 60 ≤ 603072) (hn : nq + 4000 ≤ 7211113) (hx : s.heap.size ≤ x) (hzl : x + 341 ≤ H.size) {v : Nat} {N : Nat} {f : Int → Int} {nn : Int} {v2 : Nat} {N2 : Nat} {f2 : Int → Int} {n2 : Int} {co : Nat → Int → Int} {bf : Nat → Int → Int} {cv : Nat → Int → Int} {hc : Nat → Nat → Int → Int} {nx : Int} {sz : Int} {hs : Int} {er : Int} {fa : Int} {ss : Int} {dk : Nat → Int → Int} {se : Nat → Int → Int} {po : Int} {si : Int} {pr : Nat → Int → Int} {ml : Int} {ml2 : Int} {mo : Nat → Int → Int} {lg : Nat → Int64} {dg : Nat → UInt64} (hW : LawW E x v N f nn v2 N2 f2 n2 co bf cv hc nx sz hs er fa ss dk se po si pr ml ml2 mo lg dg H) (hP : LawP x v N f nn v2 N2 f2 n2 co cv hc nx sz hs er fa ss po si pr mo) (i0 : 0 ≤ i) (i1 : i + 5 ≤ (Lx : Int)) {a1 : Int} (ha1 : (xs (i + 1).toNat).toInt = a1) (ga1 : Rg a1) {a2 : Int} (ha2 : (xs (i + 2).toNat).toInt = a2) (ga2 : Rg a2) (q0 : ¬ (0 ≤ a1 ∧ a1 < co 0 1)) (kk : ∀ (H1 : Heap) (lo1 : List Loc), MS E [] s H1 lo1 → LawI E x H1 → V p l e room_1 s m args below meth cd Q 9 H1 lo1 (kq + 60) (nq + 4000) 3555 [(5, .int (zI i)), (4, .ref (x + 340)), (3, .ref (x + 339)), (2, .ref (x + 334)), (1, .ref x), (0, .ref b)] []) : V p l e room_1 s m args below meth cd Q 9 H lo kq nq 1975 [(5, .int (zI i)), (4, .ref (x + 340)), (3, .ref (x + 339)), (2, .ref (x + 334)), (1, .ref x), (0, .ref b)] [] := by
  obtain ⟨h_cm, h_co, h_bf, h_sv, h_hi, h_hf, h_dk, h_se, h_pg, h_sb, h_sa, h_pr, h_ln, h_la, h_mo, h_out, h_outD⟩ := hW
  have hP0 := hP
  obtain ⟨⟨hD, hDv, hDh⟩, ⟨hRM, hch, hcs⟩, ⟨⟨n0, n1⟩, ⟨s0, s1⟩, hhs⟩, ⟨hm8, hnn, hAg, hNN, hnN, hf9⟩, ⟨T, hSB, hLT, hn38⟩, hPB, ⟨her, hfa, hss, ger, gfa, gss, gms⟩, ⟨gpo, gsi⟩, ⟨hv1, hv2, hvv⟩⟩ := hP
  have hO := hD.inv.ok
  have hI := hD.inv.ts
  have hSt := hD.inv.st
  have hS := hD.inv.sn
  have hR := hRM.1.2
  have hG := gp_inv hD
  have hb0 := hO.b0
  have hbw := hO.bw
  have hbf : ¬ Fr [] s.heap.size b := fun z => z.elim (fun q => q.elim) (fun q => by omega)
  refine v_aload_n X dL_law_1975 1976 rfl 4 rfl ?_
  refine v_aload_n X dL_law_1976 1977 rfl 5 rfl ?_
  refine v_iload X dL_law_1977 1979 rfl 0 rfl ?_
  refine v_iconst X dL_law_1979 1980 rfl ?_
  refine v_iadd X dL_law_1980 1981 rfl ?_
  refine v_scr X hM hX hbl hbf (by omega) (by omega) hLx ha1 dL_law_1981 1982 rfl ?_
  refine v_aload_n X dL_law_1982 1983 rfl 5 rfl ?_
  refine v_iload X dL_law_1983 1985 rfl 0 rfl ?_
  refine v_iconst X dL_law_1985 1986 rfl ?_
  refine v_iadd X dL_law_1986 1987 rfl ?_
  refine v_scr X hM hX hbl hbf (by omega) (by omega) hLx ha2 dL_law_1987 1988 rfl ?_
  refine v_aload_n X dL_law_1988 1989 rfl 2 rfl ?_
  refine v_mwS X hM (w_X9_areConnected_0_t l hl E x co hs er fa ss a1 a2 (x + 339) lg hO ga1 ga2 q0) kwL_areConnected ksL_areConnected kl_L_282 (As := [.ref x, .int (zI a1), .int (zI a2), .ref (x + 339)]) rfl rfl (rm_lawW rfl (by omega) (by omega)) dL_law_1989 1992 rfl (k' := kq + 1) (n' := nq + 6) rfl rfl (fun q hq => hq.elim) ⟨h_cm, h_co, h_out⟩ (fun rv H1 lo1 hM hF hpo => ?_)
  subst hpo
  replace hzl := Nat.le_trans hzl hF.1
  replace h_cm := h_cm.kept hF 1 rfl (fun q _ _ h => h.elim)
  replace h_co := h_co.kept hF 28 rfl (fun q _ _ h => h.elim)
  replace h_bf := h_bf.kept hF 28 rfl (fun q _ _ h => h.elim)
  replace h_sv := h_sv.kept hF 28 rfl (fun q _ _ h => h.elim)
  replace h_hi := h_hi.kept hF 2 rfl (fun q _ _ h => h.elim)
  replace h_hf := h_hf.kept hF (fun q _ _ h => h.elim)
  replace h_dk := h_dk.kept hF 3 rfl (fun q _ _ h => h.elim)
  replace h_se := h_se.kept hF 5 rfl (fun q _ _ h => h.elim)
  replace h_pg := h_pg.kept hF 1 rfl (fun q _ _ h => h.elim)
  replace h_sb := h_sb.kept hF 1 rfl (fun q _ _ h => h.elim)
  replace h_sa := h_sa.kept hF 1 rfl (fun q _ _ h => h.elim)
  replace h_pr := h_pr.kept hF 10 rfl (fun q _ _ h => h.elim)
  replace h_ln := h_ln.kept hF 1 rfl (fun q _ _ h => h.elim)
  replace h_la := h_la.kept hF 1 rfl (fun q _ _ h => h.elim)
  replace h_mo := h_mo.kept hF 5 rfl (fun q _ _ h => h.elim)
  replace h_out := h_out.kept hF 1 rfl (fun q _ _ h => h.elim)
  replace h_outD := h_outD.kept hF 1 rfl (fun q _ _ h => h.elim)
  show V p l e room_1 s m args below meth cd Q 9 H1 lo1 (kq + 1) (nq + 6) 1992 [(5, .int (zI i)), (4, .ref (x + 340)), (3, .ref (x + 339)), (2, .ref (x + 334)), (1, .ref x), (0, .ref b)] [.int (zI 1)]
  refine v_istore X dL_law_1992 1994 rfl (by decide) (L' := [(6, .int (zI 1)), (5, .int (zI i)), (4, .ref (x + 340)), (3, .ref (x + 339)), (2, .ref (x + 334)), (1, .ref x), (0, .ref b)]) rfl ?_
  refine v_aload_n X dL_law_1994 1995 rfl 4 rfl ?_
  refine v_aload_n X dL_law_1995 1996 rfl 6 rfl ?_
  refine v_iload X dL_law_1996 1998 rfl 1 rfl ?_
  refine v_iconst X dL_law_1998 1999 rfl ?_
  refine v_iadd X dL_law_1999 2000 rfl ?_
  refine v_scr X hM hX hbl hbf (by omega) (by omega) hLx ha1 dL_law_2000 2001 rfl ?_
  refine v_aload_n X dL_law_2001 2002 rfl 6 rfl ?_
  refine v_iload X dL_law_2002 2004 rfl 1 rfl ?_
  refine v_iconst X dL_law_2004 2005 rfl ?_
  refine v_iadd X dL_law_2005 2006 rfl ?_
  refine v_scr X hM hX hbl hbf (by omega) (by omega) hLx ha2 dL_law_2006 2007 rfl ?_
  refine v_muV X hM (h_mo.1) (c_X10_areConnected_0 l E (x + 334) mo co a1 a2 hO hR hI hG ga1 ga2 q0) kvX10_areConnected kiX10_areConnected kl_L_284 (q0 := 0) rfl rfl (As := [.int (zI a1), .int (zI a2)]) rfl rfl (rm_law rfl (by omega) (by omega)) dL_law_2007 2010 rfl (k' := kq + 1) (n' := nq + 6) rfl rfl (fsI (fun q q1 q2 => (Or.inr (by omega)))) h_mo (fun rv H2 lo2 hM hF hpo => ?_)
  obtain ⟨rfl, hw_0⟩ := hpo
  have h_mo : PR E (x + 334) (modelW E (x + 334) (updC mo 0 (updZ (mo 0) 0 1))) H2 := hw_0
  replace hzl := Nat.le_trans hzl hF.1
  replace h_cm := h_cm.kept hF 1 rfl (fsd (by omega))
  replace h_co := h_co.kept hF 28 rfl (fsd (by omega))
  replace h_bf := h_bf.kept hF 28 rfl (fsd (by omega))
  replace h_sv := h_sv.kept hF 28 rfl (fsd (by omega))
  replace h_hi := h_hi.kept hF 2 rfl (fsd (by omega))
  replace h_hf := h_hf.kept hF (fsd (by omega))
  replace h_dk := h_dk.kept hF 3 rfl (fsd (by omega))
  replace h_se := h_se.kept hF 5 rfl (fsd (by omega))
  replace h_pg := h_pg.kept hF 1 rfl (fsd (by omega))
  replace h_sb := h_sb.kept hF 1 rfl (fsd (by omega))
  replace h_sa := h_sa.kept hF 1 rfl (fsd (by omega))
  replace h_pr := h_pr.kept hF 10 rfl (fsd (by omega))
  replace h_ln := h_ln.kept hF 1 rfl (fsd (by omega))
  replace h_la := h_la.kept hF 1 rfl (fsd (by omega))
  replace h_out := h_out.kept hF 1 rfl (fsd (by omega))
  replace h_outD := h_outD.kept hF 1 rfl (fsd (by omega))
  show V p l e room_1 s m args below meth cd Q 9 H2 lo2 (kq + 1) (nq + 6) 2010 [(6, .int (zI 1)), (5, .int (zI i)), (4, .ref (x + 340)), (3, .ref (x + 339)), (2, .ref (x + 334)), (1, .ref x), (0, .ref b)] [.int (zI 0)]
  refine v_istore X dL_law_2010 2012 rfl (by decide) (L' := [(7, .int (zI 0)), (6, .int (zI 1)), (5, .int (zI i)), (4, .ref (x + 340)), (3, .ref (x + 339)), (2, .ref (x + 334)), (1, .ref x), (0, .ref b)]) rfl ?_
  refine v_aload_n X dL_law_2012 2013 rfl 5 rfl ?_
  refine v_rdV X hM.C h_mo.1 (c_X10_thrown l E (x + 334) (updC mo 0 (updZ (mo 0) 0 1))) kvX10_thrown kiX10_thrown kl_L_196 rfl rfl (As := []) rfl rfl (rm_law0 rfl (by omega) (by omega)) dL_law_2013 2016 rfl ?_
  show V p l e room_1 s m args below meth cd Q 9 H2 lo2 (kq + 1) (nq + 6) 2016 [(7, .int (zI 0)), (6, .int (zI 1)), (5, .int (zI i)), (4, .ref (x + 340)), (3, .ref (x + 339)), (2, .ref (x + 334)), (1, .ref x), (0, .ref b)] [.int (zI 1)]
  refine v_iload X dL_law_2016 2018 rfl 1 rfl ?_
  refine v_icmp_eq X (by omega) (by omega) dL_law_2018 2021 2023 rfl (by decide) (fun c_3 => ?_) (fun c_3 => ?_)
  · skip
    refine v_iload X dL_law_2023 2025 rfl 1 rfl ?_
    refine v_if_ne X (by omega) dL_law_2025 2028 2047 rfl (by decide) (fun c_4 => ?_) (fun c_4 => ?_)
    · skip
      refine v_goto X dL_law_2047 3555 (by decide) ?_
      refine v_widen (k' := kq + 60) (n' := nq + 4000) (by omega) (by omega) ?_
      exact V_pick [2, 3, 4, 5, 6, 7] rfl (kk _ _ hM ⟨hzl, _, _, _, _, _, _, _, _, _, _, _, _, _, _, _, _, _, _, _, _, _, _, _, _, _, _, _, _, ⟨h_cm, h_co, h_bf, h_sv, h_hi, h_hf, h_dk, h_se, h_pg, h_sb, h_sa, h_pr, h_ln, h_la, h_mo, h_out, h_outD⟩, hP0.mo_0⟩)
    · skip
      exfalso; omega
  · skip
    exfalso; omega
set_option maxHeartbeats 4000000 in
set_option maxRecDepth 20000 in
theorem lo_areConnected_2 (hl : l.stackTraces = false) (X : CF p m cd code 9 s args RL) (hX : va_X b Lx xs s s.heap) (hbl : b < s.heap.size) (hLx : Lx ≤ 2560) (hM : MS E [] s H lo) (hk : kq + 60 ≤ 603072) (hn : nq + 4000 ≤ 7211113) (hx : s.heap.size ≤ x) (hzl : x + 341 ≤ H.size) {v : Nat} {N : Nat} {f : Int → Int} {nn : Int} {v2 : Nat} {N2 : Nat} {f2 : Int → Int} {n2 : Int} {co : Nat → Int → Int} {bf : Nat → Int → Int} {cv : Nat → Int → Int} {hc : Nat → Nat → Int → Int} {nx : Int} {sz : Int} {hs : Int} {er : Int} {fa : Int} {ss : Int} {dk : Nat → Int → Int} {se : Nat → Int → Int} {po : Int} {si : Int} {pr : Nat → Int → Int} {ml : Int} {ml2 : Int} {mo : Nat → Int → Int} {lg : Nat → Int64} {dg : Nat → UInt64} (hW : LawW E x v N f nn v2 N2 f2 n2 co bf cv hc nx sz hs er fa ss dk se po si pr ml ml2 mo lg dg H) (hP : LawP x v N f nn v2 N2 f2 n2 co cv hc nx sz hs er fa ss po si pr mo) (i0 : 0 ≤ i) (i1 : i + 5 ≤ (Lx : Int)) {a1 : Int} (ha1 : (xs (i + 1).toNat).toInt = a1) (ga1 : Rg a1) {a2 : Int} (ha2 : (xs (i + 2).toNat).toInt = a2) (ga2 : Rg a2) (q0 : 0 ≤ a1 ∧ a1 < co 0 1) (q1 : ¬ (0 ≤ a2 ∧ a2 < co 0 1)) (kk : ∀ (H1 : Heap) (lo1 : List Loc), MS E [] s H1 lo1 → LawI E x H1 → V p l e room_1 s m args below meth cd Q 9 H1 lo1 (kq + 60) (nq + 4000) 3555 [(5, .int (zI i)), (4, .ref (x + 340)), (3, .ref (x + 339)), (2, .ref (x + 334)), (1, .ref x), (0, .ref b)] []) : V p l e room_1 s m args below meth cd Q 9 H lo kq nq 1975 [(5, .int (zI i)), (4, .ref (x + 340)), (3, .ref (x + 339)), (2, .ref (x + 334)), (1, .ref x), (0, .ref b)] [] := by
  obtain ⟨h_cm, h_co, h_bf, h_sv, h_hi, h_hf, h_dk, h_se, h_pg, h_sb, h_sa, h_pr, h_ln, h_la, h_mo, h_out, h_outD⟩ := hW
  have hP0 := hP
  obtain ⟨⟨hD, hDv, hDh⟩, ⟨hRM, hch, hcs⟩, ⟨⟨n0, n1⟩, ⟨s0, s1⟩, hhs⟩, ⟨hm8, hnn, hAg, hNN, hnN, hf9⟩, ⟨T, hSB, hLT, hn38⟩, hPB, ⟨her, hfa, hss, ger, gfa, gss, gms⟩, ⟨gpo, gsi⟩, ⟨hv1, hv2, hvv⟩⟩ := hP
  have hO := hD.inv.ok
  have hI := hD.inv.ts
  have hSt := hD.inv.st
  have hS := hD.inv.sn
  have hR := hRM.1.2
  have hG := gp_inv hD
  have hb0 := hO.b0
  have hbw := hO.bw
  have hbf : ¬ Fr [] s.heap.size b := fun z => z.elim (fun q => q.elim) (fun q => by omega)
  refine v_aload_n X dL_law_1975 1976 rfl 4 rfl ?_
  refine v_aload_n X dL_law_1976 1977 rfl 5 rfl ?_
  refine v_iload X dL_law_1977 1979 rfl 0 rfl ?_
  refine v_iconst X dL_law_1979 1980 rfl ?_
  refine v_iadd X dL_law_1980 1981 rfl ?_
  refine v_scr X hM hX hbl hbf (by omega) (by omega) hLx ha1 dL_law_1981 1982 rfl ?_
  refine v_aload_n X dL_law_1982 1983 rfl 5 rfl ?_
  refine v_iload X dL_law_1983 1985 rfl 0 rfl ?_
  refine v_iconst X dL_law_1985 1986 rfl ?_
  refine v_iadd X dL_law_1986 1987 rfl ?_
  refine v_scr X hM hX hbl hbf (by omega) (by omega) hLx ha2 dL_law_1987 1988 rfl ?_
  refine v_aload_n X dL_law_1988 1989 rfl 2 rfl ?_
  refine v_mwS X hM (w_X9_areConnected_1_t l hl E x co hs er fa ss a1 a2 (x + 339) lg hO ga1 ga2 q0 q1) kwL_areConnected ksL_areConnected kl_L_282 (As := [.ref x, .int (zI a1), .int (zI a2), .ref (x + 339)]) rfl rfl (rm_lawW rfl (by omega) (by omega)) dL_law_1989 1992 rfl (k' := kq + 1) (n' := nq + 6) rfl rfl (fun q hq => hq.elim) ⟨h_cm, h_co, h_out⟩ (fun rv H1 lo1 hM hF hpo => ?_)
  subst hpo
  replace hzl := Nat.le_trans hzl hF.1
  replace h_cm := h_cm.kept hF 1 rfl (fun q _ _ h => h.elim)
  replace h_co := h_co.kept hF 28 rfl (fun q _ _ h => h.elim)
  replace h_bf := h_bf.kept hF 28 rfl (fun q _ _ h => h.elim)
  replace h_sv := h_sv.kept hF 28 rfl (fun q _ _ h => h.elim)
  replace h_hi := h_hi.kept hF 2 rfl (fun q _ _ h => h.elim)
  replace h_hf := h_hf.kept hF (fun q _ _ h => h.elim)
  replace h_dk := h_dk.kept hF 3 rfl (fun q _ _ h => h.elim)
  replace h_se := h_se.kept hF 5 rfl (fun q _ _ h => h.elim)
  replace h_pg := h_pg.kept hF 1 rfl (fun q _ _ h => h.elim)
  replace h_sb := h_sb.kept hF 1 rfl (fun q _ _ h => h.elim)
  replace h_sa := h_sa.kept hF 1 rfl (fun q _ _ h => h.elim)
  replace h_pr := h_pr.kept hF 10 rfl (fun q _ _ h => h.elim)
  replace h_ln := h_ln.kept hF 1 rfl (fun q _ _ h => h.elim)
  replace h_la := h_la.kept hF 1 rfl (fun q _ _ h => h.elim)
  replace h_mo := h_mo.kept hF 5 rfl (fun q _ _ h => h.elim)
  replace h_out := h_out.kept hF 1 rfl (fun q _ _ h => h.elim)
  replace h_outD := h_outD.kept hF 1 rfl (fun q _ _ h => h.elim)
  show V p l e room_1 s m args below meth cd Q 9 H1 lo1 (kq + 1) (nq + 6) 1992 [(5, .int (zI i)), (4, .ref (x + 340)), (3, .ref (x + 339)), (2, .ref (x + 334)), (1, .ref x), (0, .ref b)] [.int (zI 1)]
  refine v_istore X dL_law_1992 1994 rfl (by decide) (L' := [(6, .int (zI 1)), (5, .int (zI i)), (4, .ref (x + 340)), (3, .ref (x + 339)), (2, .ref (x + 334)), (1, .ref x), (0, .ref b)]) rfl ?_
  refine v_aload_n X dL_law_1994 1995 rfl 4 rfl ?_
  refine v_aload_n X dL_law_1995 1996 rfl 6 rfl ?_
  refine v_iload X dL_law_1996 1998 rfl 1 rfl ?_
  refine v_iconst X dL_law_1998 1999 rfl ?_
  refine v_iadd X dL_law_1999 2000 rfl ?_
  refine v_scr X hM hX hbl hbf (by omega) (by omega) hLx ha1 dL_law_2000 2001 rfl ?_
  refine v_aload_n X dL_law_2001 2002 rfl 6 rfl ?_
  refine v_iload X dL_law_2002 2004 rfl 1 rfl ?_
  refine v_iconst X dL_law_2004 2005 rfl ?_
  refine v_iadd X dL_law_2005 2006 rfl ?_
  refine v_scr X hM hX hbl hbf (by omega) (by omega) hLx ha2 dL_law_2006 2007 rfl ?_
  refine v_muV X hM (h_mo.1) (c_X10_areConnected_1 l E (x + 334) mo co a1 a2 hO hR hI hG ga1 ga2 q0 q1) kvX10_areConnected kiX10_areConnected kl_L_284 (q0 := 0) rfl rfl (As := [.int (zI a1), .int (zI a2)]) rfl rfl (rm_law rfl (by omega) (by omega)) dL_law_2007 2010 rfl (k' := kq + 1) (n' := nq + 6) rfl rfl (fsI (fun q q1 q2 => (Or.inr (by omega)))) h_mo (fun rv H2 lo2 hM hF hpo => ?_)
  obtain ⟨rfl, hw_0⟩ := hpo
  have h_mo : PR E (x + 334) (modelW E (x + 334) (updC mo 0 (updZ (mo 0) 0 1))) H2 := hw_0
  replace hzl := Nat.le_trans hzl hF.1
  replace h_cm := h_cm.kept hF 1 rfl (fsd (by omega))
  replace h_co := h_co.kept hF 28 rfl (fsd (by omega))
  replace h_bf := h_bf.kept hF 28 rfl (fsd (by omega))
  replace h_sv := h_sv.kept hF 28 rfl (fsd (by omega))
  replace h_hi := h_hi.kept hF 2 rfl (fsd (by omega))
  replace h_hf := h_hf.kept hF (fsd (by omega))
  replace h_dk := h_dk.kept hF 3 rfl (fsd (by omega))
  replace h_se := h_se.kept hF 5 rfl (fsd (by omega))
  replace h_pg := h_pg.kept hF 1 rfl (fsd (by omega))
  replace h_sb := h_sb.kept hF 1 rfl (fsd (by omega))
  replace h_sa := h_sa.kept hF 1 rfl (fsd (by omega))
  replace h_pr := h_pr.kept hF 10 rfl (fsd (by omega))
  replace h_ln := h_ln.kept hF 1 rfl (fsd (by omega))
  replace h_la := h_la.kept hF 1 rfl (fsd (by omega))
  replace h_out := h_out.kept hF 1 rfl (fsd (by omega))
  replace h_outD := h_outD.kept hF 1 rfl (fsd (by omega))
  show V p l e room_1 s m args below meth cd Q 9 H2 lo2 (kq + 1) (nq + 6) 2010 [(6, .int (zI 1)), (5, .int (zI i)), (4, .ref (x + 340)), (3, .ref (x + 339)), (2, .ref (x + 334)), (1, .ref x), (0, .ref b)] [.int (zI 0)]
  refine v_istore X dL_law_2010 2012 rfl (by decide) (L' := [(7, .int (zI 0)), (6, .int (zI 1)), (5, .int (zI i)), (4, .ref (x + 340)), (3, .ref (x + 339)), (2, .ref (x + 334)), (1, .ref x), (0, .ref b)]) rfl ?_
  refine v_aload_n X dL_law_2012 2013 rfl 5 rfl ?_
  refine v_rdV X hM.C h_mo.1 (c_X10_thrown l E (x + 334) (updC mo 0 (updZ (mo 0) 0 1))) kvX10_thrown kiX10_thrown kl_L_196 rfl rfl (As := []) rfl rfl (rm_law0 rfl (by omega) (by omega)) dL_law_2013 2016 rfl ?_
  show V p l e room_1 s m args below meth cd Q 9 H2 lo2 (kq + 1) (nq + 6) 2016 [(7, .int (zI 0)), (6, .int (zI 1)), (5, .int (zI i)), (4, .ref (x + 340)), (3, .ref (x + 339)), (2, .ref (x + 334)), (1, .ref x), (0, .ref b)] [.int (zI 1)]
  refine v_iload X dL_law_2016 2018 rfl 1 rfl ?_
  refine v_icmp_eq X (by omega) (by omega) dL_law_2018 2021 2023 rfl (by decide) (fun c_3 => ?_) (fun c_3 => ?_)
  · skip
    refine v_iload X dL_law_2023 2025 rfl 1 rfl ?_
    refine v_if_ne X (by omega) dL_law_2025 2028 2047 rfl (by decide) (fun c_4 => ?_) (fun c_4 => ?_)
    · skip
      refine v_goto X dL_law_2047 3555 (by decide) ?_
      refine v_widen (k' := kq + 60) (n' := nq + 4000) (by omega) (by omega) ?_
      exact V_pick [2, 3, 4, 5, 6, 7] rfl (kk _ _ hM ⟨hzl, _, _, _, _, _, _, _, _, _, _, _, _, _, _, _, _, _, _, _, _, _, _, _, _, _, _, _, _, ⟨h_cm, h_co, h_bf, h_sv, h_hi, h_hf, h_dk, h_se, h_pg, h_sb, h_sa, h_pr, h_ln, h_la, h_mo, h_out, h_outD⟩, hP0.mo_0⟩)
    · skip
      exfalso; omega
  · skip
    exfalso; omega
set_option maxHeartbeats 4000000 in
set_option maxRecDepth 20000 in
theorem lo_groupSize (hl : l.stackTraces = false) (X : CF p m cd code 9 s args RL) (hX : va_X b Lx xs s s.heap) (hbl : b < s.heap.size) (hLx : Lx ≤ 2560) (hM : MS E [] s H lo) (hk : kq + 60 ≤ 603072) (hn : nq + 4000 ≤ 7211113) (hx : s.heap.size ≤ x) (hzl : x + 341 ≤ H.size) {v : Nat} {N : Nat} {f : Int → Int} {nn : Int} {v2 : Nat} {N2 : Nat} {f2 : Int → Int} {n2 : Int} {co : Nat → Int → Int} {bf : Nat → Int → Int} {cv : Nat → Int → Int} {hc : Nat → Nat → Int → Int} {nx : Int} {sz : Int} {hs : Int} {er : Int} {fa : Int} {ss : Int} {dk : Nat → Int → Int} {se : Nat → Int → Int} {po : Int} {si : Int} {pr : Nat → Int → Int} {ml : Int} {ml2 : Int} {mo : Nat → Int → Int} {lg : Nat → Int64} {dg : Nat → UInt64} (hW : LawW E x v N f nn v2 N2 f2 n2 co bf cv hc nx sz hs er fa ss dk se po si pr ml ml2 mo lg dg H) (hP : LawP x v N f nn v2 N2 f2 n2 co cv hc nx sz hs er fa ss po si pr mo) (i0 : 0 ≤ i) (i1 : i + 5 ≤ (Lx : Int)) {a1 : Int} (ha1 : (xs (i + 1).toNat).toInt = a1) (ga1 : Rg a1) (q0 : 0 ≤ a1 ∧ a1 < co 0 1) (kk : ∀ (H1 : Heap) (lo1 : List Loc), MS E [] s H1 lo1 → LawI E x H1 → V p l e room_1 s m args below meth cd Q 9 H1 lo1 (kq + 60) (nq + 4000) 3555 [(5, .int (zI i)), (4, .ref (x + 340)), (3, .ref (x + 339)), (2, .ref (x + 334)), (1, .ref x), (0, .ref b)] []) : V p l e room_1 s m args below meth cd Q 9 H lo kq nq 2125 [(5, .int (zI i)), (4, .ref (x + 340)), (3, .ref (x + 339)), (2, .ref (x + 334)), (1, .ref x), (0, .ref b)] [] := by
  obtain ⟨h_cm, h_co, h_bf, h_sv, h_hi, h_hf, h_dk, h_se, h_pg, h_sb, h_sa, h_pr, h_ln, h_la, h_mo, h_out, h_outD⟩ := hW
  have hP0 := hP
  obtain ⟨⟨hD, hDv, hDh⟩, ⟨hRM, hch, hcs⟩, ⟨⟨n0, n1⟩, ⟨s0, s1⟩, hhs⟩, ⟨hm8, hnn, hAg, hNN, hnN, hf9⟩, ⟨T, hSB, hLT, hn38⟩, hPB, ⟨her, hfa, hss, ger, gfa, gss, gms⟩, ⟨gpo, gsi⟩, ⟨hv1, hv2, hvv⟩⟩ := hP
  have hO := hD.inv.ok
  have hI := hD.inv.ts
  have hSt := hD.inv.st
  have hS := hD.inv.sn
  have hR := hRM.1.2
  have hG := gp_inv hD
  have hb0 := hO.b0
  have hbw := hO.bw
  have hbf : ¬ Fr [] s.heap.size b := fun z => z.elim (fun q => q.elim) (fun q => by omega)
  refine v_aload_n X dL_law_2125 2126 rfl 4 rfl ?_
  refine v_aload_n X dL_law_2126 2127 rfl 5 rfl ?_
  refine v_iload X dL_law_2127 2129 rfl 0 rfl ?_
  refine v_iconst X dL_law_2129 2130 rfl ?_
  refine v_iadd X dL_law_2130 2131 rfl ?_
  refine v_scr X hM hX hbl hbf (by omega) (by omega) hLx ha1 dL_law_2131 2132 rfl ?_
  refine v_aload_n X dL_law_2132 2133 rfl 2 rfl ?_
  refine v_mwS X hM (w_X9_groupSize l hl E x co hs er fa ss a1 (x + 339) lg hO ga1 q0 (by omega) (by omega)) kwL_groupSize ksL_groupSize kl_L_288 (As := [.ref x, .int (zI a1), .ref (x + 339)]) rfl rfl (rm_lawW rfl (by omega) (by omega)) dL_law_2133 2136 rfl (k' := kq + 1) (n' := nq + 6) rfl rfl (fsI (fun q q1 q2 => (Or.inr (by omega)))) ⟨h_cm, h_co, h_out⟩ (fun rv H1 lo1 hM hF hpo => ?_)
  obtain ⟨rfl, hw_0⟩ := hpo
  have h_out : PR E (x + 339) [(x + 339, .inl (E 102 4, 1, .inr (.inl (fun _ => zL (sumZ (fun j => bz (rtF ((co 13)) 8 a1 = rtF ((co 13)) 8 j)) (co 0 1).toNat)))))] H1 := hw_0
  replace hzl := Nat.le_trans hzl hF.1
  replace h_cm := h_cm.kept hF 1 rfl (fsd (by omega))
  replace h_co := h_co.kept hF 28 rfl (fsd (by omega))
  replace h_bf := h_bf.kept hF 28 rfl (fsd (by omega))
  replace h_sv := h_sv.kept hF 28 rfl (fsd (by omega))
  replace h_hi := h_hi.kept hF 2 rfl (fsd (by omega))
  replace h_hf := h_hf.kept hF (fsd (by omega))
  replace h_dk := h_dk.kept hF 3 rfl (fsd (by omega))
  replace h_se := h_se.kept hF 5 rfl (fsd (by omega))
  replace h_pg := h_pg.kept hF 1 rfl (fsd (by omega))
  replace h_sb := h_sb.kept hF 1 rfl (fsd (by omega))
  replace h_sa := h_sa.kept hF 1 rfl (fsd (by omega))
  replace h_pr := h_pr.kept hF 10 rfl (fsd (by omega))
  replace h_ln := h_ln.kept hF 1 rfl (fsd (by omega))
  replace h_la := h_la.kept hF 1 rfl (fsd (by omega))
  replace h_mo := h_mo.kept hF 5 rfl (fsd (by omega))
  replace h_outD := h_outD.kept hF 1 rfl (fsd (by omega))
  show V p l e room_1 s m args below meth cd Q 9 H1 lo1 (kq + 1) (nq + 6) 2136 [(5, .int (zI i)), (4, .ref (x + 340)), (3, .ref (x + 339)), (2, .ref (x + 334)), (1, .ref x), (0, .ref b)] [.int (zI 0)]
  refine v_istore X dL_law_2136 2138 rfl (by decide) (L' := [(6, .int (zI 0)), (5, .int (zI i)), (4, .ref (x + 340)), (3, .ref (x + 339)), (2, .ref (x + 334)), (1, .ref x), (0, .ref b)]) rfl ?_
  refine v_aload_n X dL_law_2138 2139 rfl 4 rfl ?_
  refine v_aload_n X dL_law_2139 2140 rfl 6 rfl ?_
  refine v_iload X dL_law_2140 2142 rfl 1 rfl ?_
  refine v_iconst X dL_law_2142 2143 rfl ?_
  refine v_iadd X dL_law_2143 2144 rfl ?_
  refine v_scr X hM hX hbl hbf (by omega) (by omega) hLx ha1 dL_law_2144 2145 rfl ?_
  refine v_muV X hM (h_mo.1) (c_X10_groupSize l E (x + 334) mo co a1 hO hR hI hG ga1 q0) kvX10_groupSize kiX10_groupSize kl_L_290 (q0 := 0) rfl rfl (As := [.int (zI a1)]) rfl rfl (rm_law rfl (by omega) (by omega)) dL_law_2145 2148 rfl (k' := kq + 1) (n' := nq + 6) rfl rfl (fsI (fun q q1 q2 => (Or.inr (by omega)))) h_mo (fun rv H2 lo2 hM hF hpo => ?_)
  obtain ⟨rfl, hw_0⟩ := hpo
  have h_mo : PR E (x + 334) (modelW E (x + 334) (updC mo 0 (updZ (mo 0) 0 0))) H2 := hw_0
  replace hzl := Nat.le_trans hzl hF.1
  replace h_cm := h_cm.kept hF 1 rfl (fsd (by omega))
  replace h_co := h_co.kept hF 28 rfl (fsd (by omega))
  replace h_bf := h_bf.kept hF 28 rfl (fsd (by omega))
  replace h_sv := h_sv.kept hF 28 rfl (fsd (by omega))
  replace h_hi := h_hi.kept hF 2 rfl (fsd (by omega))
  replace h_hf := h_hf.kept hF (fsd (by omega))
  replace h_dk := h_dk.kept hF 3 rfl (fsd (by omega))
  replace h_se := h_se.kept hF 5 rfl (fsd (by omega))
  replace h_pg := h_pg.kept hF 1 rfl (fsd (by omega))
  replace h_sb := h_sb.kept hF 1 rfl (fsd (by omega))
  replace h_sa := h_sa.kept hF 1 rfl (fsd (by omega))
  replace h_pr := h_pr.kept hF 10 rfl (fsd (by omega))
  replace h_ln := h_ln.kept hF 1 rfl (fsd (by omega))
  replace h_la := h_la.kept hF 1 rfl (fsd (by omega))
  replace h_out := h_out.kept hF 1 rfl (fsd (by omega))
  replace h_outD := h_outD.kept hF 1 rfl (fsd (by omega))
  show V p l e room_1 s m args below meth cd Q 9 H2 lo2 (kq + 1) (nq + 6) 2148 [(6, .int (zI 0)), (5, .int (zI i)), (4, .ref (x + 340)), (3, .ref (x + 339)), (2, .ref (x + 334)), (1, .ref x), (0, .ref b)] [.int (zI (sumZ (fun j => bz (rtF (co 13) 8 a1 = rtF (co 13) 8 j)) (co 0 1).toNat))]
  refine v_istore X dL_law_2148 2150 rfl (by decide) (L' := [(7, .int (zI (sumZ (fun j => bz (rtF (co 13) 8 a1 = rtF (co 13) 8 j)) (co 0 1).toNat))), (6, .int (zI 0)), (5, .int (zI i)), (4, .ref (x + 340)), (3, .ref (x + 339)), (2, .ref (x + 334)), (1, .ref x), (0, .ref b)]) rfl ?_
  refine v_aload_n X dL_law_2150 2151 rfl 5 rfl ?_
  refine v_rdV X hM.C h_mo.1 (c_X10_thrown l E (x + 334) (updC mo 0 (updZ (mo 0) 0 0))) kvX10_thrown kiX10_thrown kl_L_196 rfl rfl (As := []) rfl rfl (rm_law0 rfl (by omega) (by omega)) dL_law_2151 2154 rfl ?_
  show V p l e room_1 s m args below meth cd Q 9 H2 lo2 (kq + 1) (nq + 6) 2154 [(7, .int (zI (sumZ (fun j => bz (rtF (co 13) 8 a1 = rtF (co 13) 8 j)) (co 0 1).toNat))), (6, .int (zI 0)), (5, .int (zI i)), (4, .ref (x + 340)), (3, .ref (x + 339)), (2, .ref (x + 334)), (1, .ref x), (0, .ref b)] [.int (zI 0)]
  refine v_iload X dL_law_2154 2156 rfl 1 rfl ?_
  refine v_icmp_eq X (by omega) (by omega) dL_law_2156 2159 2161 rfl (by decide) (fun c_3 => ?_) (fun c_3 => ?_)
  · skip
    refine v_iload X dL_law_2161 2163 rfl 1 rfl ?_
    refine v_if_ne X (by omega) dL_law_2163 2166 2178 rfl (by decide) (fun c_4 => ?_) (fun c_4 => ?_)
    · skip
      exfalso; omega
    · skip
      refine v_aload_n X dL_law_2166 2167 rfl 4 rfl ?_
      refine v_iconst X dL_law_2167 2168 rfl ?_
      refine v_lald X hM.C h_out.1 0 rfl dL_law_2168 2169 rfl ?_
      show V p l e room_1 s m args below meth cd Q 9 H2 lo2 (kq + 1) (nq + 6) 2169 [(7, .int (zI (sumZ (fun j => bz (rtF (co 13) 8 a1 = rtF (co 13) 8 j)) (co 0 1).toNat))), (6, .int (zI 0)), (5, .int (zI i)), (4, .ref (x + 340)), (3, .ref (x + 339)), (2, .ref (x + 334)), (1, .ref x), (0, .ref b)] [.long (zL (sumZ (fun j => bz (rtF (co 13) 8 a1 = rtF (co 13) 8 j)) (co 0 1).toNat))]
      refine v_iload X dL_law_2169 2171 rfl 0 rfl ?_
      refine v_i2l X dL_law_2171 2172 rfl ?_
      refine v_lcmp0 X dL_law_2172 2173 rfl ?_
      refine v_if_eq X (by omega) dL_law_2173 2176 2178 rfl (by decide) (fun c_5 => ?_) (fun c_5 => ?_)
      · skip
        refine v_goto X dL_law_2178 3555 (by decide) ?_
        refine v_widen (k' := kq + 60) (n' := nq + 4000) (by omega) (by omega) ?_
        exact V_pick [2, 3, 4, 5, 6, 7] rfl (kk _ _ hM ⟨hzl, _, _, _, _, _, _, _, _, _, _, _, _, _, _, _, _, _, _, _, _, _, _, _, _, _, _, _, _, ⟨h_cm, h_co, h_bf, h_sv, h_hi, h_hf, h_dk, h_se, h_pg, h_sb, h_sa, h_pr, h_ln, h_la, h_mo, h_out, h_outD⟩, hP0.mo_0⟩)
      · skip
        exfalso; omega
  · skip
    exfalso; omega
set_option maxHeartbeats 4000000 in
set_option maxRecDepth 20000 in
theorem lo_groupSize_1 (hl : l.stackTraces = false) (X : CF p m cd code 9 s args RL) (hX : va_X b Lx xs s s.heap) (hbl : b < s.heap.size) (hLx : Lx ≤ 2560) (hM : MS E [] s H lo) (hk : kq + 60 ≤ 603072) (hn : nq + 4000 ≤ 7211113) (hx : s.heap.size ≤ x) (hzl : x + 341 ≤ H.size) {v : Nat} {N : Nat} {f : Int → Int} {nn : Int} {v2 : Nat} {N2 : Nat} {f2 : Int → Int} {n2 : Int} {co : Nat → Int → Int} {bf : Nat → Int → Int} {cv : Nat → Int → Int} {hc : Nat → Nat → Int → Int} {nx : Int} {sz : Int} {hs : Int} {er : Int} {fa : Int} {ss : Int} {dk : Nat → Int → Int} {se : Nat → Int → Int} {po : Int} {si : Int} {pr : Nat → Int → Int} {ml : Int} {ml2 : Int} {mo : Nat → Int → Int} {lg : Nat → Int64} {dg : Nat → UInt64} (hW : LawW E x v N f nn v2 N2 f2 n2 co bf cv hc nx sz hs er fa ss dk se po si pr ml ml2 mo lg dg H) (hP : LawP x v N f nn v2 N2 f2 n2 co cv hc nx sz hs er fa ss po si pr mo) (i0 : 0 ≤ i) (i1 : i + 5 ≤ (Lx : Int)) {a1 : Int} (ha1 : (xs (i + 1).toNat).toInt = a1) (ga1 : Rg a1) (q0 : ¬ (0 ≤ a1 ∧ a1 < co 0 1)) (kk : ∀ (H1 : Heap) (lo1 : List Loc), MS E [] s H1 lo1 → LawI E x H1 → V p l e room_1 s m args below meth cd Q 9 H1 lo1 (kq + 60) (nq + 4000) 3555 [(5, .int (zI i)), (4, .ref (x + 340)), (3, .ref (x + 339)), (2, .ref (x + 334)), (1, .ref x), (0, .ref b)] []) : V p l e room_1 s m args below meth cd Q 9 H lo kq nq 2125 [(5, .int (zI i)), (4, .ref (x + 340)), (3, .ref (x + 339)), (2, .ref (x + 334)), (1, .ref x), (0, .ref b)] [] := by
  obtain ⟨h_cm, h_co, h_bf, h_sv, h_hi, h_hf, h_dk, h_se, h_pg, h_sb, h_sa, h_pr, h_ln, h_la, h_mo, h_out, h_outD⟩ := hW
  have hP0 := hP
  obtain ⟨⟨hD, hDv, hDh⟩, ⟨hRM, hch, hcs⟩, ⟨⟨n0, n1⟩, ⟨s0, s1⟩, hhs⟩, ⟨hm8, hnn, hAg, hNN, hnN, hf9⟩, ⟨T, hSB, hLT, hn38⟩, hPB, ⟨her, hfa, hss, ger, gfa, gss, gms⟩, ⟨gpo, gsi⟩, ⟨hv1, hv2, hvv⟩⟩ := hP
  have hO := hD.inv.ok
  have hI := hD.inv.ts
  have hSt := hD.inv.st
  have hS := hD.inv.sn
  have hR := hRM.1.2
  have hG := gp_inv hD
  have hb0 := hO.b0
  have hbw := hO.bw
  have hbf : ¬ Fr [] s.heap.size b := fun z => z.elim (fun q => q.elim) (fun q => by omega)
  refine v_aload_n X dL_law_2125 2126 rfl 4 rfl ?_
  refine v_aload_n X dL_law_2126 2127 rfl 5 rfl ?_
  refine v_iload X dL_law_2127 2129 rfl 0 rfl ?_
  refine v_iconst X dL_law_2129 2130 rfl ?_
  refine v_iadd X dL_law_2130 2131 rfl ?_
  refine v_scr X hM hX hbl hbf (by omega) (by omega) hLx ha1 dL_law_2131 2132 rfl ?_
  refine v_aload_n X dL_law_2132 2133 rfl 2 rfl ?_
  refine v_mwS X hM (w_X9_groupSize_0_t l hl E x co hs er fa ss a1 (x + 339) lg hO ga1 q0) kwL_groupSize ksL_groupSize kl_L_288 (As := [.ref x, .int (zI a1), .ref (x + 339)]) rfl rfl (rm_lawW rfl (by omega) (by omega)) dL_law_2133 2136 rfl (k' := kq + 1) (n' := nq + 6) rfl rfl (fun q hq => hq.elim) ⟨h_cm, h_co, h_out⟩ (fun rv H1 lo1 hM hF hpo => ?_)
  subst hpo
  replace hzl := Nat.le_trans hzl hF.1
  replace h_cm := h_cm.kept hF 1 rfl (fun q _ _ h => h.elim)
  replace h_co := h_co.kept hF 28 rfl (fun q _ _ h => h.elim)
  replace h_bf := h_bf.kept hF 28 rfl (fun q _ _ h => h.elim)
  replace h_sv := h_sv.kept hF 28 rfl (fun q _ _ h => h.elim)
  replace h_hi := h_hi.kept hF 2 rfl (fun q _ _ h => h.elim)
  replace h_hf := h_hf.kept hF (fun q _ _ h => h.elim)
  replace h_dk := h_dk.kept hF 3 rfl (fun q _ _ h => h.elim)
  replace h_se := h_se.kept hF 5 rfl (fun q _ _ h => h.elim)
  replace h_pg := h_pg.kept hF 1 rfl (fun q _ _ h => h.elim)
  replace h_sb := h_sb.kept hF 1 rfl (fun q _ _ h => h.elim)
  replace h_sa := h_sa.kept hF 1 rfl (fun q _ _ h => h.elim)
  replace h_pr := h_pr.kept hF 10 rfl (fun q _ _ h => h.elim)
  replace h_ln := h_ln.kept hF 1 rfl (fun q _ _ h => h.elim)
  replace h_la := h_la.kept hF 1 rfl (fun q _ _ h => h.elim)
  replace h_mo := h_mo.kept hF 5 rfl (fun q _ _ h => h.elim)
  replace h_out := h_out.kept hF 1 rfl (fun q _ _ h => h.elim)
  replace h_outD := h_outD.kept hF 1 rfl (fun q _ _ h => h.elim)
  show V p l e room_1 s m args below meth cd Q 9 H1 lo1 (kq + 1) (nq + 6) 2136 [(5, .int (zI i)), (4, .ref (x + 340)), (3, .ref (x + 339)), (2, .ref (x + 334)), (1, .ref x), (0, .ref b)] [.int (zI 1)]
  refine v_istore X dL_law_2136 2138 rfl (by decide) (L' := [(6, .int (zI 1)), (5, .int (zI i)), (4, .ref (x + 340)), (3, .ref (x + 339)), (2, .ref (x + 334)), (1, .ref x), (0, .ref b)]) rfl ?_
  refine v_aload_n X dL_law_2138 2139 rfl 4 rfl ?_
  refine v_aload_n X dL_law_2139 2140 rfl 6 rfl ?_
  refine v_iload X dL_law_2140 2142 rfl 1 rfl ?_
  refine v_iconst X dL_law_2142 2143 rfl ?_
  refine v_iadd X dL_law_2143 2144 rfl ?_
  refine v_scr X hM hX hbl hbf (by omega) (by omega) hLx ha1 dL_law_2144 2145 rfl ?_
  refine v_muV X hM (h_mo.1) (c_X10_groupSize_0 l E (x + 334) mo co a1 hO hR hI hG ga1 q0) kvX10_groupSize kiX10_groupSize kl_L_290 (q0 := 0) rfl rfl (As := [.int (zI a1)]) rfl rfl (rm_law rfl (by omega) (by omega)) dL_law_2145 2148 rfl (k' := kq + 1) (n' := nq + 6) rfl rfl (fsI (fun q q1 q2 => (Or.inr (by omega)))) h_mo (fun rv H2 lo2 hM hF hpo => ?_)
  obtain ⟨rfl, hw_0⟩ := hpo
  have h_mo : PR E (x + 334) (modelW E (x + 334) (updC mo 0 (updZ (mo 0) 0 1))) H2 := hw_0
  replace hzl := Nat.le_trans hzl hF.1
  replace h_cm := h_cm.kept hF 1 rfl (fsd (by omega))
  replace h_co := h_co.kept hF 28 rfl (fsd (by omega))
  replace h_bf := h_bf.kept hF 28 rfl (fsd (by omega))
  replace h_sv := h_sv.kept hF 28 rfl (fsd (by omega))
  replace h_hi := h_hi.kept hF 2 rfl (fsd (by omega))
  replace h_hf := h_hf.kept hF (fsd (by omega))
  replace h_dk := h_dk.kept hF 3 rfl (fsd (by omega))
  replace h_se := h_se.kept hF 5 rfl (fsd (by omega))
  replace h_pg := h_pg.kept hF 1 rfl (fsd (by omega))
  replace h_sb := h_sb.kept hF 1 rfl (fsd (by omega))
  replace h_sa := h_sa.kept hF 1 rfl (fsd (by omega))
  replace h_pr := h_pr.kept hF 10 rfl (fsd (by omega))
  replace h_ln := h_ln.kept hF 1 rfl (fsd (by omega))
  replace h_la := h_la.kept hF 1 rfl (fsd (by omega))
  replace h_out := h_out.kept hF 1 rfl (fsd (by omega))
  replace h_outD := h_outD.kept hF 1 rfl (fsd (by omega))
  show V p l e room_1 s m args below meth cd Q 9 H2 lo2 (kq + 1) (nq + 6) 2148 [(6, .int (zI 1)), (5, .int (zI i)), (4, .ref (x + 340)), (3, .ref (x + 339)), (2, .ref (x + 334)), (1, .ref x), (0, .ref b)] [.int (zI 0)]
  refine v_istore X dL_law_2148 2150 rfl (by decide) (L' := [(7, .int (zI 0)), (6, .int (zI 1)), (5, .int (zI i)), (4, .ref (x + 340)), (3, .ref (x + 339)), (2, .ref (x + 334)), (1, .ref x), (0, .ref b)]) rfl ?_
  refine v_aload_n X dL_law_2150 2151 rfl 5 rfl ?_
  refine v_rdV X hM.C h_mo.1 (c_X10_thrown l E (x + 334) (updC mo 0 (updZ (mo 0) 0 1))) kvX10_thrown kiX10_thrown kl_L_196 rfl rfl (As := []) rfl rfl (rm_law0 rfl (by omega) (by omega)) dL_law_2151 2154 rfl ?_
  show V p l e room_1 s m args below meth cd Q 9 H2 lo2 (kq + 1) (nq + 6) 2154 [(7, .int (zI 0)), (6, .int (zI 1)), (5, .int (zI i)), (4, .ref (x + 340)), (3, .ref (x + 339)), (2, .ref (x + 334)), (1, .ref x), (0, .ref b)] [.int (zI 1)]
  refine v_iload X dL_law_2154 2156 rfl 1 rfl ?_
  refine v_icmp_eq X (by omega) (by omega) dL_law_2156 2159 2161 rfl (by decide) (fun c_3 => ?_) (fun c_3 => ?_)
  · skip
    refine v_iload X dL_law_2161 2163 rfl 1 rfl ?_
    refine v_if_ne X (by omega) dL_law_2163 2166 2178 rfl (by decide) (fun c_4 => ?_) (fun c_4 => ?_)
    · skip
      refine v_goto X dL_law_2178 3555 (by decide) ?_
      refine v_widen (k' := kq + 60) (n' := nq + 4000) (by omega) (by omega) ?_
      exact V_pick [2, 3, 4, 5, 6, 7] rfl (kk _ _ hM ⟨hzl, _, _, _, _, _, _, _, _, _, _, _, _, _, _, _, _, _, _, _, _, _, _, _, _, _, _, _, _, ⟨h_cm, h_co, h_bf, h_sv, h_hi, h_hf, h_dk, h_se, h_pg, h_sb, h_sa, h_pr, h_ln, h_la, h_mo, h_out, h_outD⟩, hP0.mo_0⟩)
    · skip
      exfalso; omega
  · skip
    exfalso; omega
set_option maxHeartbeats 4000000 in
set_option maxRecDepth 20000 in
theorem lo_heaviestWitness (hl : l.stackTraces = false) (X : CF p m cd code 9 s args RL) (hX : va_X b Lx xs s s.heap) (hbl : b < s.heap.size) (hLx : Lx ≤ 2560) (hM : MS E [] s H lo) (hk : kq + 60 ≤ 603072) (hn : nq + 4000 ≤ 7211113) (hx : s.heap.size ≤ x) (hzl : x + 341 ≤ H.size) {v : Nat} {N : Nat} {f : Int → Int} {nn : Int} {v2 : Nat} {N2 : Nat} {f2 : Int → Int} {n2 : Int} {co : Nat → Int → Int} {bf : Nat → Int → Int} {cv : Nat → Int → Int} {hc : Nat → Nat → Int → Int} {nx : Int} {sz : Int} {hs : Int} {er : Int} {fa : Int} {ss : Int} {dk : Nat → Int → Int} {se : Nat → Int → Int} {po : Int} {si : Int} {pr : Nat → Int → Int} {ml : Int} {ml2 : Int} {mo : Nat → Int → Int} {lg : Nat → Int64} {dg : Nat → UInt64} (hW : LawW E x v N f nn v2 N2 f2 n2 co bf cv hc nx sz hs er fa ss dk se po si pr ml ml2 mo lg dg H) (hP : LawP x v N f nn v2 N2 f2 n2 co cv hc nx sz hs er fa ss po si pr mo) (i0 : 0 ≤ i) (i1 : i + 5 ≤ (Lx : Int)) {a1 : Int} (ha1 : (xs (i + 1).toNat).toInt = a1) (ga1 : Rg a1) (q0 : 0 ≤ a1 ∧ a1 < co 0 0) (q1 : 0 < co 6 a1) (kk : ∀ (H1 : Heap) (lo1 : List Loc), MS E [] s H1 lo1 → LawI E x H1 → V p l e room_1 s m args below meth cd Q 9 H1 lo1 (kq + 60) (nq + 4000) 3555 [(5, .int (zI i)), (4, .ref (x + 340)), (3, .ref (x + 339)), (2, .ref (x + 334)), (1, .ref x), (0, .ref b)] []) : V p l e room_1 s m args below meth cd Q 9 H lo kq nq 2194 [(5, .int (zI i)), (4, .ref (x + 340)), (3, .ref (x + 339)), (2, .ref (x + 334)), (1, .ref x), (0, .ref b)] [] := by
  obtain ⟨h_cm, h_co, h_bf, h_sv, h_hi, h_hf, h_dk, h_se, h_pg, h_sb, h_sa, h_pr, h_ln, h_la, h_mo, h_out, h_outD⟩ := hW
  have hP0 := hP
  obtain ⟨⟨hD, hDv, hDh⟩, ⟨hRM, hch, hcs⟩, ⟨⟨n0, n1⟩, ⟨s0, s1⟩, hhs⟩, ⟨hm8, hnn, hAg, hNN, hnN, hf9⟩, ⟨T, hSB, hLT, hn38⟩, hPB, ⟨her, hfa, hss, ger, gfa, gss, gms⟩, ⟨gpo, gsi⟩, ⟨hv1, hv2, hvv⟩⟩ := hP
  have hO := hD.inv.ok
  have hI := hD.inv.ts
  have hSt := hD.inv.st
  have hS := hD.inv.sn
  have hR := hRM.1.2
  have hG := gp_inv hD
  have hb0 := hO.b0
  have hbw := hO.bw
  have hbf : ¬ Fr [] s.heap.size b := fun z => z.elim (fun q => q.elim) (fun q => by omega)
  refine v_aload_n X dL_law_2194 2195 rfl 4 rfl ?_
  refine v_aload_n X dL_law_2195 2196 rfl 5 rfl ?_
  refine v_iload X dL_law_2196 2198 rfl 0 rfl ?_
  refine v_iconst X dL_law_2198 2199 rfl ?_
  refine v_iadd X dL_law_2199 2200 rfl ?_
  refine v_scr X hM hX hbl hbf (by omega) (by omega) hLx ha1 dL_law_2200 2201 rfl ?_
  refine v_aload_n X dL_law_2201 2202 rfl 2 rfl ?_
  refine v_mwS X hM (w_X9_heaviestWitness l hl E x co hs er fa ss a1 (x + 339) lg hO ga1 q0 q1 (by omega) (by omega)) kwL_heaviestWitness ksL_heaviestWitness kl_L_295 (As := [.ref x, .int (zI a1), .ref (x + 339)]) rfl rfl (rm_lawW rfl (by omega) (by omega)) dL_law_2202 2205 rfl (k' := kq + 1) (n' := nq + 6) rfl rfl (fsI (fun q q1 q2 => (Or.inr (by omega)))) ⟨h_cm, h_co, h_out⟩ (fun rv H1 lo1 hM hF hpo => ?_)
  obtain ⟨rfl, hw_0⟩ := hpo
  have h_out : PR E (x + 339) [(x + 339, .inl (E 102 4, 1, .inr (.inl (fun _ => zL (co 7 (a1 * 6 + amx (wtC co a1) (co 6 a1).toNat))))))] H1 := hw_0
  replace hzl := Nat.le_trans hzl hF.1
  replace h_cm := h_cm.kept hF 1 rfl (fsd (by omega))
  replace h_co := h_co.kept hF 28 rfl (fsd (by omega))
  replace h_bf := h_bf.kept hF 28 rfl (fsd (by omega))
  replace h_sv := h_sv.kept hF 28 rfl (fsd (by omega))
  replace h_hi := h_hi.kept hF 2 rfl (fsd (by omega))
  replace h_hf := h_hf.kept hF (fsd (by omega))
  replace h_dk := h_dk.kept hF 3 rfl (fsd (by omega))
  replace h_se := h_se.kept hF 5 rfl (fsd (by omega))
  replace h_pg := h_pg.kept hF 1 rfl (fsd (by omega))
  replace h_sb := h_sb.kept hF 1 rfl (fsd (by omega))
  replace h_sa := h_sa.kept hF 1 rfl (fsd (by omega))
  replace h_pr := h_pr.kept hF 10 rfl (fsd (by omega))
  replace h_ln := h_ln.kept hF 1 rfl (fsd (by omega))
  replace h_la := h_la.kept hF 1 rfl (fsd (by omega))
  replace h_mo := h_mo.kept hF 5 rfl (fsd (by omega))
  replace h_outD := h_outD.kept hF 1 rfl (fsd (by omega))
  show V p l e room_1 s m args below meth cd Q 9 H1 lo1 (kq + 1) (nq + 6) 2205 [(5, .int (zI i)), (4, .ref (x + 340)), (3, .ref (x + 339)), (2, .ref (x + 334)), (1, .ref x), (0, .ref b)] [.int (zI 0)]
  refine v_istore X dL_law_2205 2207 rfl (by decide) (L' := [(6, .int (zI 0)), (5, .int (zI i)), (4, .ref (x + 340)), (3, .ref (x + 339)), (2, .ref (x + 334)), (1, .ref x), (0, .ref b)]) rfl ?_
  refine v_aload_n X dL_law_2207 2208 rfl 4 rfl ?_
  refine v_aload_n X dL_law_2208 2209 rfl 6 rfl ?_
  refine v_iload X dL_law_2209 2211 rfl 1 rfl ?_
  refine v_iconst X dL_law_2211 2212 rfl ?_
  refine v_iadd X dL_law_2212 2213 rfl ?_
  refine v_scr X hM hX hbl hbf (by omega) (by omega) hLx ha1 dL_law_2213 2214 rfl ?_
  refine v_muV X hM (h_mo.1) (c_X10_heaviestWitness l E (x + 334) mo co a1 hO hR hI ga1 q0 q1) kvX10_heaviestWitness kiX10_heaviestWitness kl_L_297 (q0 := 0) rfl rfl (As := [.int (zI a1)]) rfl rfl (rm_law rfl (by omega) (by omega)) dL_law_2214 2217 rfl (k' := kq + 1) (n' := nq + 6) rfl rfl (fsI (fun q q1 q2 => (Or.inr (by omega)))) h_mo (fun rv H2 lo2 hM hF hpo => ?_)
  obtain ⟨rfl, hw_0⟩ := hpo
  have h_mo : PR E (x + 334) (modelW E (x + 334) (updC mo 0 (updZ (mo 0) 0 0))) H2 := hw_0
  replace hzl := Nat.le_trans hzl hF.1
  replace h_cm := h_cm.kept hF 1 rfl (fsd (by omega))
  replace h_co := h_co.kept hF 28 rfl (fsd (by omega))
  replace h_bf := h_bf.kept hF 28 rfl (fsd (by omega))
  replace h_sv := h_sv.kept hF 28 rfl (fsd (by omega))
  replace h_hi := h_hi.kept hF 2 rfl (fsd (by omega))
  replace h_hf := h_hf.kept hF (fsd (by omega))
  replace h_dk := h_dk.kept hF 3 rfl (fsd (by omega))
  replace h_se := h_se.kept hF 5 rfl (fsd (by omega))
  replace h_pg := h_pg.kept hF 1 rfl (fsd (by omega))
  replace h_sb := h_sb.kept hF 1 rfl (fsd (by omega))
  replace h_sa := h_sa.kept hF 1 rfl (fsd (by omega))
  replace h_pr := h_pr.kept hF 10 rfl (fsd (by omega))
  replace h_ln := h_ln.kept hF 1 rfl (fsd (by omega))
  replace h_la := h_la.kept hF 1 rfl (fsd (by omega))
  replace h_out := h_out.kept hF 1 rfl (fsd (by omega))
  replace h_outD := h_outD.kept hF 1 rfl (fsd (by omega))
  show V p l e room_1 s m args below meth cd Q 9 H2 lo2 (kq + 1) (nq + 6) 2217 [(6, .int (zI 0)), (5, .int (zI i)), (4, .ref (x + 340)), (3, .ref (x + 339)), (2, .ref (x + 334)), (1, .ref x), (0, .ref b)] [.int (zI (co 7 (a1 * 6 + amx (wtC co a1) (co 6 a1).toNat)))]
  refine v_istore X dL_law_2217 2219 rfl (by decide) (L' := [(7, .int (zI (co 7 (a1 * 6 + amx (wtC co a1) (co 6 a1).toNat)))), (6, .int (zI 0)), (5, .int (zI i)), (4, .ref (x + 340)), (3, .ref (x + 339)), (2, .ref (x + 334)), (1, .ref x), (0, .ref b)]) rfl ?_
  refine v_aload_n X dL_law_2219 2220 rfl 5 rfl ?_
  refine v_rdV X hM.C h_mo.1 (c_X10_thrown l E (x + 334) (updC mo 0 (updZ (mo 0) 0 0))) kvX10_thrown kiX10_thrown kl_L_196 rfl rfl (As := []) rfl rfl (rm_law0 rfl (by omega) (by omega)) dL_law_2220 2223 rfl ?_
  show V p l e room_1 s m args below meth cd Q 9 H2 lo2 (kq + 1) (nq + 6) 2223 [(7, .int (zI (co 7 (a1 * 6 + amx (wtC co a1) (co 6 a1).toNat)))), (6, .int (zI 0)), (5, .int (zI i)), (4, .ref (x + 340)), (3, .ref (x + 339)), (2, .ref (x + 334)), (1, .ref x), (0, .ref b)] [.int (zI 0)]
  refine v_iload X dL_law_2223 2225 rfl 1 rfl ?_
  refine v_icmp_eq X (by omega) (by omega) dL_law_2225 2228 2230 rfl (by decide) (fun c_3 => ?_) (fun c_3 => ?_)
  · skip
    refine v_iload X dL_law_2230 2232 rfl 1 rfl ?_
    refine v_if_ne X (by omega) dL_law_2232 2235 2247 rfl (by decide) (fun c_4 => ?_) (fun c_4 => ?_)
    · skip
      exfalso; omega
    · skip
      refine v_aload_n X dL_law_2235 2236 rfl 4 rfl ?_
      refine v_iconst X dL_law_2236 2237 rfl ?_
      refine v_lald X hM.C h_out.1 0 rfl dL_law_2237 2238 rfl ?_
      show V p l e room_1 s m args below meth cd Q 9 H2 lo2 (kq + 1) (nq + 6) 2238 [(7, .int (zI (co 7 (a1 * 6 + amx (wtC co a1) (co 6 a1).toNat)))), (6, .int (zI 0)), (5, .int (zI i)), (4, .ref (x + 340)), (3, .ref (x + 339)), (2, .ref (x + 334)), (1, .ref x), (0, .ref b)] [.long (zL (co 7 (a1 * 6 + amx (wtC co a1) (co 6 a1).toNat)))]
      refine v_iload X dL_law_2238 2240 rfl 0 rfl ?_
      refine v_i2l X dL_law_2240 2241 rfl ?_
      refine v_lcmp0 X dL_law_2241 2242 rfl ?_
      refine v_if_eq X (by omega) dL_law_2242 2245 2247 rfl (by decide) (fun c_5 => ?_) (fun c_5 => ?_)
      · skip
        refine v_goto X dL_law_2247 3555 (by decide) ?_
        refine v_widen (k' := kq + 60) (n' := nq + 4000) (by omega) (by omega) ?_
        exact V_pick [2, 3, 4, 5, 6, 7] rfl (kk _ _ hM ⟨hzl, _, _, _, _, _, _, _, _, _, _, _, _, _, _, _, _, _, _, _, _, _, _, _, _, _, _, _, _, ⟨h_cm, h_co, h_bf, h_sv, h_hi, h_hf, h_dk, h_se, h_pg, h_sb, h_sa, h_pr, h_ln, h_la, h_mo, h_out, h_outD⟩, hP0.mo_0⟩)
      · skip
        exfalso; omega
  · skip
    exfalso; omega
set_option maxHeartbeats 4000000 in
set_option maxRecDepth 20000 in
theorem lo_heaviestWitness_1 (hl : l.stackTraces = false) (X : CF p m cd code 9 s args RL) (hX : va_X b Lx xs s s.heap) (hbl : b < s.heap.size) (hLx : Lx ≤ 2560) (hM : MS E [] s H lo) (hk : kq + 60 ≤ 603072) (hn : nq + 4000 ≤ 7211113) (hx : s.heap.size ≤ x) (hzl : x + 341 ≤ H.size) {v : Nat} {N : Nat} {f : Int → Int} {nn : Int} {v2 : Nat} {N2 : Nat} {f2 : Int → Int} {n2 : Int} {co : Nat → Int → Int} {bf : Nat → Int → Int} {cv : Nat → Int → Int} {hc : Nat → Nat → Int → Int} {nx : Int} {sz : Int} {hs : Int} {er : Int} {fa : Int} {ss : Int} {dk : Nat → Int → Int} {se : Nat → Int → Int} {po : Int} {si : Int} {pr : Nat → Int → Int} {ml : Int} {ml2 : Int} {mo : Nat → Int → Int} {lg : Nat → Int64} {dg : Nat → UInt64} (hW : LawW E x v N f nn v2 N2 f2 n2 co bf cv hc nx sz hs er fa ss dk se po si pr ml ml2 mo lg dg H) (hP : LawP x v N f nn v2 N2 f2 n2 co cv hc nx sz hs er fa ss po si pr mo) (i0 : 0 ≤ i) (i1 : i + 5 ≤ (Lx : Int)) {a1 : Int} (ha1 : (xs (i + 1).toNat).toInt = a1) (ga1 : Rg a1) (q0 : ¬ (0 ≤ a1 ∧ a1 < co 0 0)) (kk : ∀ (H1 : Heap) (lo1 : List Loc), MS E [] s H1 lo1 → LawI E x H1 → V p l e room_1 s m args below meth cd Q 9 H1 lo1 (kq + 60) (nq + 4000) 3555 [(5, .int (zI i)), (4, .ref (x + 340)), (3, .ref (x + 339)), (2, .ref (x + 334)), (1, .ref x), (0, .ref b)] []) : V p l e room_1 s m args below meth cd Q 9 H lo kq nq 2194 [(5, .int (zI i)), (4, .ref (x + 340)), (3, .ref (x + 339)), (2, .ref (x + 334)), (1, .ref x), (0, .ref b)] [] := by
  obtain ⟨h_cm, h_co, h_bf, h_sv, h_hi, h_hf, h_dk, h_se, h_pg, h_sb, h_sa, h_pr, h_ln, h_la, h_mo, h_out, h_outD⟩ := hW
  have hP0 := hP
  obtain ⟨⟨hD, hDv, hDh⟩, ⟨hRM, hch, hcs⟩, ⟨⟨n0, n1⟩, ⟨s0, s1⟩, hhs⟩, ⟨hm8, hnn, hAg, hNN, hnN, hf9⟩, ⟨T, hSB, hLT, hn38⟩, hPB, ⟨her, hfa, hss, ger, gfa, gss, gms⟩, ⟨gpo, gsi⟩, ⟨hv1, hv2, hvv⟩⟩ := hP
  have hO := hD.inv.ok
  have hI := hD.inv.ts
  have hSt := hD.inv.st
  have hS := hD.inv.sn
  have hR := hRM.1.2
  have hG := gp_inv hD
  have hb0 := hO.b0
  have hbw := hO.bw
  have hbf : ¬ Fr [] s.heap.size b := fun z => z.elim (fun q => q.elim) (fun q => by omega)
  refine v_aload_n X dL_law_2194 2195 rfl 4 rfl ?_
  refine v_aload_n X dL_law_2195 2196 rfl 5 rfl ?_
  refine v_iload X dL_law_2196 2198 rfl 0 rfl ?_
  refine v_iconst X dL_law_2198 2199 rfl ?_
  refine v_iadd X dL_law_2199 2200 rfl ?_
  refine v_scr X hM hX hbl hbf (by omega) (by omega) hLx ha1 dL_law_2200 2201 rfl ?_
  refine v_aload_n X dL_law_2201 2202 rfl 2 rfl ?_
  refine v_mwS X hM (w_X9_heaviestWitness_0_t l hl E x co hs er fa ss a1 (x + 339) lg hO ga1 q0) kwL_heaviestWitness ksL_heaviestWitness kl_L_295 (As := [.ref x, .int (zI a1), .ref (x + 339)]) rfl rfl (rm_lawW rfl (by omega) (by omega)) dL_law_2202 2205 rfl (k' := kq + 1) (n' := nq + 6) rfl rfl (fun q hq => hq.elim) ⟨h_cm, h_co, h_out⟩ (fun rv H1 lo1 hM hF hpo => ?_)
  subst hpo
  replace hzl := Nat.le_trans hzl hF.1
  replace h_cm := h_cm.kept hF 1 rfl (fun q _ _ h => h.elim)
  replace h_co := h_co.kept hF 28 rfl (fun q _ _ h => h.elim)
  replace h_bf := h_bf.kept hF 28 rfl (fun q _ _ h => h.elim)
  replace h_sv := h_sv.kept hF 28 rfl (fun q _ _ h => h.elim)
  replace h_hi := h_hi.kept hF 2 rfl (fun q _ _ h => h.elim)
  replace h_hf := h_hf.kept hF (fun q _ _ h => h.elim)
  replace h_dk := h_dk.kept hF 3 rfl (fun q _ _ h => h.elim)
  replace h_se := h_se.kept hF 5 rfl (fun q _ _ h => h.elim)
  replace h_pg := h_pg.kept hF 1 rfl (fun q _ _ h => h.elim)
  replace h_sb := h_sb.kept hF 1 rfl (fun q _ _ h => h.elim)
  replace h_sa := h_sa.kept hF 1 rfl (fun q _ _ h => h.elim)
  replace h_pr := h_pr.kept hF 10 rfl (fun q _ _ h => h.elim)
  replace h_ln := h_ln.kept hF 1 rfl (fun q _ _ h => h.elim)
  replace h_la := h_la.kept hF 1 rfl (fun q _ _ h => h.elim)
  replace h_mo := h_mo.kept hF 5 rfl (fun q _ _ h => h.elim)
  replace h_out := h_out.kept hF 1 rfl (fun q _ _ h => h.elim)
  replace h_outD := h_outD.kept hF 1 rfl (fun q _ _ h => h.elim)
  show V p l e room_1 s m args below meth cd Q 9 H1 lo1 (kq + 1) (nq + 6) 2205 [(5, .int (zI i)), (4, .ref (x + 340)), (3, .ref (x + 339)), (2, .ref (x + 334)), (1, .ref x), (0, .ref b)] [.int (zI 1)]
  refine v_istore X dL_law_2205 2207 rfl (by decide) (L' := [(6, .int (zI 1)), (5, .int (zI i)), (4, .ref (x + 340)), (3, .ref (x + 339)), (2, .ref (x + 334)), (1, .ref x), (0, .ref b)]) rfl ?_
  refine v_aload_n X dL_law_2207 2208 rfl 4 rfl ?_
  refine v_aload_n X dL_law_2208 2209 rfl 6 rfl ?_
  refine v_iload X dL_law_2209 2211 rfl 1 rfl ?_
  refine v_iconst X dL_law_2211 2212 rfl ?_
  refine v_iadd X dL_law_2212 2213 rfl ?_
  refine v_scr X hM hX hbl hbf (by omega) (by omega) hLx ha1 dL_law_2213 2214 rfl ?_
  refine v_muV X hM (h_mo.1) (c_X10_heaviestWitness_0 l E (x + 334) mo co a1 hO hR hI ga1 q0) kvX10_heaviestWitness kiX10_heaviestWitness kl_L_297 (q0 := 0) rfl rfl (As := [.int (zI a1)]) rfl rfl (rm_law rfl (by omega) (by omega)) dL_law_2214 2217 rfl (k' := kq + 1) (n' := nq + 6) rfl rfl (fsI (fun q q1 q2 => (Or.inr (by omega)))) h_mo (fun rv H2 lo2 hM hF hpo => ?_)
  obtain ⟨rfl, hw_0⟩ := hpo
  have h_mo : PR E (x + 334) (modelW E (x + 334) (updC mo 0 (updZ (mo 0) 0 1))) H2 := hw_0
  replace hzl := Nat.le_trans hzl hF.1
  replace h_cm := h_cm.kept hF 1 rfl (fsd (by omega))
  replace h_co := h_co.kept hF 28 rfl (fsd (by omega))
  replace h_bf := h_bf.kept hF 28 rfl (fsd (by omega))
  replace h_sv := h_sv.kept hF 28 rfl (fsd (by omega))
  replace h_hi := h_hi.kept hF 2 rfl (fsd (by omega))
  replace h_hf := h_hf.kept hF (fsd (by omega))
  replace h_dk := h_dk.kept hF 3 rfl (fsd (by omega))
  replace h_se := h_se.kept hF 5 rfl (fsd (by omega))
  replace h_pg := h_pg.kept hF 1 rfl (fsd (by omega))
  replace h_sb := h_sb.kept hF 1 rfl (fsd (by omega))
  replace h_sa := h_sa.kept hF 1 rfl (fsd (by omega))
  replace h_pr := h_pr.kept hF 10 rfl (fsd (by omega))
  replace h_ln := h_ln.kept hF 1 rfl (fsd (by omega))
  replace h_la := h_la.kept hF 1 rfl (fsd (by omega))
  replace h_out := h_out.kept hF 1 rfl (fsd (by omega))
  replace h_outD := h_outD.kept hF 1 rfl (fsd (by omega))
  show V p l e room_1 s m args below meth cd Q 9 H2 lo2 (kq + 1) (nq + 6) 2217 [(6, .int (zI 1)), (5, .int (zI i)), (4, .ref (x + 340)), (3, .ref (x + 339)), (2, .ref (x + 334)), (1, .ref x), (0, .ref b)] [.int (zI 0)]
  refine v_istore X dL_law_2217 2219 rfl (by decide) (L' := [(7, .int (zI 0)), (6, .int (zI 1)), (5, .int (zI i)), (4, .ref (x + 340)), (3, .ref (x + 339)), (2, .ref (x + 334)), (1, .ref x), (0, .ref b)]) rfl ?_
  refine v_aload_n X dL_law_2219 2220 rfl 5 rfl ?_
  refine v_rdV X hM.C h_mo.1 (c_X10_thrown l E (x + 334) (updC mo 0 (updZ (mo 0) 0 1))) kvX10_thrown kiX10_thrown kl_L_196 rfl rfl (As := []) rfl rfl (rm_law0 rfl (by omega) (by omega)) dL_law_2220 2223 rfl ?_
  show V p l e room_1 s m args below meth cd Q 9 H2 lo2 (kq + 1) (nq + 6) 2223 [(7, .int (zI 0)), (6, .int (zI 1)), (5, .int (zI i)), (4, .ref (x + 340)), (3, .ref (x + 339)), (2, .ref (x + 334)), (1, .ref x), (0, .ref b)] [.int (zI 1)]
  refine v_iload X dL_law_2223 2225 rfl 1 rfl ?_
  refine v_icmp_eq X (by omega) (by omega) dL_law_2225 2228 2230 rfl (by decide) (fun c_3 => ?_) (fun c_3 => ?_)
  · skip
    refine v_iload X dL_law_2230 2232 rfl 1 rfl ?_
    refine v_if_ne X (by omega) dL_law_2232 2235 2247 rfl (by decide) (fun c_4 => ?_) (fun c_4 => ?_)
    · skip
      refine v_goto X dL_law_2247 3555 (by decide) ?_
      refine v_widen (k' := kq + 60) (n' := nq + 4000) (by omega) (by omega) ?_
      exact V_pick [2, 3, 4, 5, 6, 7] rfl (kk _ _ hM ⟨hzl, _, _, _, _, _, _, _, _, _, _, _, _, _, _, _, _, _, _, _, _, _, _, _, _, _, _, _, _, ⟨h_cm, h_co, h_bf, h_sv, h_hi, h_hf, h_dk, h_se, h_pg, h_sb, h_sa, h_pr, h_ln, h_la, h_mo, h_out, h_outD⟩, hP0.mo_0⟩)
    · skip
      exfalso; omega
  · skip
    exfalso; omega
set_option maxHeartbeats 4000000 in
set_option maxRecDepth 20000 in
theorem lo_heaviestWitness_2 (hl : l.stackTraces = false) (X : CF p m cd code 9 s args RL) (hX : va_X b Lx xs s s.heap) (hbl : b < s.heap.size) (hLx : Lx ≤ 2560) (hM : MS E [] s H lo) (hk : kq + 60 ≤ 603072) (hn : nq + 4000 ≤ 7211113) (hx : s.heap.size ≤ x) (hzl : x + 341 ≤ H.size) {v : Nat} {N : Nat} {f : Int → Int} {nn : Int} {v2 : Nat} {N2 : Nat} {f2 : Int → Int} {n2 : Int} {co : Nat → Int → Int} {bf : Nat → Int → Int} {cv : Nat → Int → Int} {hc : Nat → Nat → Int → Int} {nx : Int} {sz : Int} {hs : Int} {er : Int} {fa : Int} {ss : Int} {dk : Nat → Int → Int} {se : Nat → Int → Int} {po : Int} {si : Int} {pr : Nat → Int → Int} {ml : Int} {ml2 : Int} {mo : Nat → Int → Int} {lg : Nat → Int64} {dg : Nat → UInt64} (hW : LawW E x v N f nn v2 N2 f2 n2 co bf cv hc nx sz hs er fa ss dk se po si pr ml ml2 mo lg dg H) (hP : LawP x v N f nn v2 N2 f2 n2 co cv hc nx sz hs er fa ss po si pr mo) (i0 : 0 ≤ i) (i1 : i + 5 ≤ (Lx : Int)) {a1 : Int} (ha1 : (xs (i + 1).toNat).toInt = a1) (ga1 : Rg a1) (q0 : 0 ≤ a1 ∧ a1 < co 0 0) (q1 : ¬ (0 < co 6 a1)) (kk : ∀ (H1 : Heap) (lo1 : List Loc), MS E [] s H1 lo1 → LawI E x H1 → V p l e room_1 s m args below meth cd Q 9 H1 lo1 (kq + 60) (nq + 4000) 3555 [(5, .int (zI i)), (4, .ref (x + 340)), (3, .ref (x + 339)), (2, .ref (x + 334)), (1, .ref x), (0, .ref b)] []) : V p l e room_1 s m args below meth cd Q 9 H lo kq nq 2194 [(5, .int (zI i)), (4, .ref (x + 340)), (3, .ref (x + 339)), (2, .ref (x + 334)), (1, .ref x), (0, .ref b)] [] := by
  obtain ⟨h_cm, h_co, h_bf, h_sv, h_hi, h_hf, h_dk, h_se, h_pg, h_sb, h_sa, h_pr, h_ln, h_la, h_mo, h_out, h_outD⟩ := hW
  have hP0 := hP
  obtain ⟨⟨hD, hDv, hDh⟩, ⟨hRM, hch, hcs⟩, ⟨⟨n0, n1⟩, ⟨s0, s1⟩, hhs⟩, ⟨hm8, hnn, hAg, hNN, hnN, hf9⟩, ⟨T, hSB, hLT, hn38⟩, hPB, ⟨her, hfa, hss, ger, gfa, gss, gms⟩, ⟨gpo, gsi⟩, ⟨hv1, hv2, hvv⟩⟩ := hP
  have hO := hD.inv.ok
  have hI := hD.inv.ts
  have hSt := hD.inv.st
  have hS := hD.inv.sn
  have hR := hRM.1.2
  have hG := gp_inv hD
  have hb0 := hO.b0
  have hbw := hO.bw
  have hbf : ¬ Fr [] s.heap.size b := fun z => z.elim (fun q => q.elim) (fun q => by omega)
  refine v_aload_n X dL_law_2194 2195 rfl 4 rfl ?_
  refine v_aload_n X dL_law_2195 2196 rfl 5 rfl ?_
  refine v_iload X dL_law_2196 2198 rfl 0 rfl ?_
  refine v_iconst X dL_law_2198 2199 rfl ?_
  refine v_iadd X dL_law_2199 2200 rfl ?_
  refine v_scr X hM hX hbl hbf (by omega) (by omega) hLx ha1 dL_law_2200 2201 rfl ?_
  refine v_aload_n X dL_law_2201 2202 rfl 2 rfl ?_
  refine v_mwS X hM (w_X9_heaviestWitness_1_t l hl E x co hs er fa ss a1 (x + 339) lg hO ga1 q0 q1) kwL_heaviestWitness ksL_heaviestWitness kl_L_295 (As := [.ref x, .int (zI a1), .ref (x + 339)]) rfl rfl (rm_lawW rfl (by omega) (by omega)) dL_law_2202 2205 rfl (k' := kq + 1) (n' := nq + 6) rfl rfl (fun q hq => hq.elim) ⟨h_cm, h_co, h_out⟩ (fun rv H1 lo1 hM hF hpo => ?_)
  subst hpo
  replace hzl := Nat.le_trans hzl hF.1
  replace h_cm := h_cm.kept hF 1 rfl (fun q _ _ h => h.elim)
  replace h_co := h_co.kept hF 28 rfl (fun q _ _ h => h.elim)
  replace h_bf := h_bf.kept hF 28 rfl (fun q _ _ h => h.elim)
  replace h_sv := h_sv.kept hF 28 rfl (fun q _ _ h => h.elim)
  replace h_hi := h_hi.kept hF 2 rfl (fun q _ _ h => h.elim)
  replace h_hf := h_hf.kept hF (fun q _ _ h => h.elim)
  replace h_dk := h_dk.kept hF 3 rfl (fun q _ _ h => h.elim)
  replace h_se := h_se.kept hF 5 rfl (fun q _ _ h => h.elim)
  replace h_pg := h_pg.kept hF 1 rfl (fun q _ _ h => h.elim)
  replace h_sb := h_sb.kept hF 1 rfl (fun q _ _ h => h.elim)
  replace h_sa := h_sa.kept hF 1 rfl (fun q _ _ h => h.elim)
  replace h_pr := h_pr.kept hF 10 rfl (fun q _ _ h => h.elim)
  replace h_ln := h_ln.kept hF 1 rfl (fun q _ _ h => h.elim)
  replace h_la := h_la.kept hF 1 rfl (fun q _ _ h => h.elim)
  replace h_mo := h_mo.kept hF 5 rfl (fun q _ _ h => h.elim)
  replace h_out := h_out.kept hF 1 rfl (fun q _ _ h => h.elim)
  replace h_outD := h_outD.kept hF 1 rfl (fun q _ _ h => h.elim)
  show V p l e room_1 s m args below meth cd Q 9 H1 lo1 (kq + 1) (nq + 6) 2205 [(5, .int (zI i)), (4, .ref (x + 340)), (3, .ref (x + 339)), (2, .ref (x + 334)), (1, .ref x), (0, .ref b)] [.int (zI 2)]
  refine v_istore X dL_law_2205 2207 rfl (by decide) (L' := [(6, .int (zI 2)), (5, .int (zI i)), (4, .ref (x + 340)), (3, .ref (x + 339)), (2, .ref (x + 334)), (1, .ref x), (0, .ref b)]) rfl ?_
  refine v_aload_n X dL_law_2207 2208 rfl 4 rfl ?_
  refine v_aload_n X dL_law_2208 2209 rfl 6 rfl ?_
  refine v_iload X dL_law_2209 2211 rfl 1 rfl ?_
  refine v_iconst X dL_law_2211 2212 rfl ?_
  refine v_iadd X dL_law_2212 2213 rfl ?_
  refine v_scr X hM hX hbl hbf (by omega) (by omega) hLx ha1 dL_law_2213 2214 rfl ?_
  refine v_muV X hM (h_mo.1) (c_X10_heaviestWitness_1 l E (x + 334) mo co a1 hO hR hI ga1 q0 q1) kvX10_heaviestWitness kiX10_heaviestWitness kl_L_297 (q0 := 0) rfl rfl (As := [.int (zI a1)]) rfl rfl (rm_law rfl (by omega) (by omega)) dL_law_2214 2217 rfl (k' := kq + 1) (n' := nq + 6) rfl rfl (fsI (fun q q1 q2 => (Or.inr (by omega)))) h_mo (fun rv H2 lo2 hM hF hpo => ?_)
  obtain ⟨rfl, hw_0⟩ := hpo
  have h_mo : PR E (x + 334) (modelW E (x + 334) (updC mo 0 (updZ (mo 0) 0 2))) H2 := hw_0
  replace hzl := Nat.le_trans hzl hF.1
  replace h_cm := h_cm.kept hF 1 rfl (fsd (by omega))
  replace h_co := h_co.kept hF 28 rfl (fsd (by omega))
  replace h_bf := h_bf.kept hF 28 rfl (fsd (by omega))
  replace h_sv := h_sv.kept hF 28 rfl (fsd (by omega))
  replace h_hi := h_hi.kept hF 2 rfl (fsd (by omega))
  replace h_hf := h_hf.kept hF (fsd (by omega))
  replace h_dk := h_dk.kept hF 3 rfl (fsd (by omega))
  replace h_se := h_se.kept hF 5 rfl (fsd (by omega))
  replace h_pg := h_pg.kept hF 1 rfl (fsd (by omega))
  replace h_sb := h_sb.kept hF 1 rfl (fsd (by omega))
  replace h_sa := h_sa.kept hF 1 rfl (fsd (by omega))
  replace h_pr := h_pr.kept hF 10 rfl (fsd (by omega))
  replace h_ln := h_ln.kept hF 1 rfl (fsd (by omega))
  replace h_la := h_la.kept hF 1 rfl (fsd (by omega))
  replace h_out := h_out.kept hF 1 rfl (fsd (by omega))
  replace h_outD := h_outD.kept hF 1 rfl (fsd (by omega))
  show V p l e room_1 s m args below meth cd Q 9 H2 lo2 (kq + 1) (nq + 6) 2217 [(6, .int (zI 2)), (5, .int (zI i)), (4, .ref (x + 340)), (3, .ref (x + 339)), (2, .ref (x + 334)), (1, .ref x), (0, .ref b)] [.int (zI 0)]
  refine v_istore X dL_law_2217 2219 rfl (by decide) (L' := [(7, .int (zI 0)), (6, .int (zI 2)), (5, .int (zI i)), (4, .ref (x + 340)), (3, .ref (x + 339)), (2, .ref (x + 334)), (1, .ref x), (0, .ref b)]) rfl ?_
  refine v_aload_n X dL_law_2219 2220 rfl 5 rfl ?_
  refine v_rdV X hM.C h_mo.1 (c_X10_thrown l E (x + 334) (updC mo 0 (updZ (mo 0) 0 2))) kvX10_thrown kiX10_thrown kl_L_196 rfl rfl (As := []) rfl rfl (rm_law0 rfl (by omega) (by omega)) dL_law_2220 2223 rfl ?_
  show V p l e room_1 s m args below meth cd Q 9 H2 lo2 (kq + 1) (nq + 6) 2223 [(7, .int (zI 0)), (6, .int (zI 2)), (5, .int (zI i)), (4, .ref (x + 340)), (3, .ref (x + 339)), (2, .ref (x + 334)), (1, .ref x), (0, .ref b)] [.int (zI 2)]
  refine v_iload X dL_law_2223 2225 rfl 1 rfl ?_
  refine v_icmp_eq X (by omega) (by omega) dL_law_2225 2228 2230 rfl (by decide) (fun c_3 => ?_) (fun c_3 => ?_)
  · skip
    refine v_iload X dL_law_2230 2232 rfl 1 rfl ?_
    refine v_if_ne X (by omega) dL_law_2232 2235 2247 rfl (by decide) (fun c_4 => ?_) (fun c_4 => ?_)
    · skip
      refine v_goto X dL_law_2247 3555 (by decide) ?_
      refine v_widen (k' := kq + 60) (n' := nq + 4000) (by omega) (by omega) ?_
      exact V_pick [2, 3, 4, 5, 6, 7] rfl (kk _ _ hM ⟨hzl, _, _, _, _, _, _, _, _, _, _, _, _, _, _, _, _, _, _, _, _, _, _, _, _, _, _, _, _, ⟨h_cm, h_co, h_bf, h_sv, h_hi, h_hf, h_dk, h_se, h_pg, h_sb, h_sa, h_pr, h_ln, h_la, h_mo, h_out, h_outD⟩, hP0.mo_0⟩)
    · skip
      exfalso; omega
  · skip
    exfalso; omega
set_option maxHeartbeats 4000000 in
set_option maxRecDepth 20000 in
theorem lo_prosecutionWeight (hl : l.stackTraces = false) (X : CF p m cd code 9 s args RL) (hX : va_X b Lx xs s s.heap) (hbl : b < s.heap.size) (hLx : Lx ≤ 2560) (hM : MS E [] s H lo) (hk : kq + 60 ≤ 603072) (hn : nq + 4000 ≤ 7211113) (hx : s.heap.size ≤ x) (hzl : x + 341 ≤ H.size) {v : Nat} {N : Nat} {f : Int → Int} {nn : Int} {v2 : Nat} {N2 : Nat} {f2 : Int → Int} {n2 : Int} {co : Nat → Int → Int} {bf : Nat → Int → Int} {cv : Nat → Int → Int} {hc : Nat → Nat → Int → Int} {nx : Int} {sz : Int} {hs : Int} {er : Int} {fa : Int} {ss : Int} {dk : Nat → Int → Int} {se : Nat → Int → Int} {po : Int} {si : Int} {pr : Nat → Int → Int} {ml : Int} {ml2 : Int} {mo : Nat → Int → Int} {lg : Nat → Int64} {dg : Nat → UInt64} (hW : LawW E x v N f nn v2 N2 f2 n2 co bf cv hc nx sz hs er fa ss dk se po si pr ml ml2 mo lg dg H) (hP : LawP x v N f nn v2 N2 f2 n2 co cv hc nx sz hs er fa ss po si pr mo) (i0 : 0 ≤ i) (i1 : i + 5 ≤ (Lx : Int)) {a1 : Int} (ha1 : (xs (i + 1).toNat).toInt = a1) (ga1 : Rg a1) (q0 : 0 ≤ a1 ∧ a1 < co 0 0) (kk : ∀ (H1 : Heap) (lo1 : List Loc), MS E [] s H1 lo1 → LawI E x H1 → V p l e room_1 s m args below meth cd Q 9 H1 lo1 (kq + 60) (nq + 4000) 3555 [(5, .int (zI i)), (4, .ref (x + 340)), (3, .ref (x + 339)), (2, .ref (x + 334)), (1, .ref x), (0, .ref b)] []) : V p l e room_1 s m args below meth cd Q 9 H lo kq nq 2294 [(5, .int (zI i)), (4, .ref (x + 340)), (3, .ref (x + 339)), (2, .ref (x + 334)), (1, .ref x), (0, .ref b)] [] := by
  obtain ⟨h_cm, h_co, h_bf, h_sv, h_hi, h_hf, h_dk, h_se, h_pg, h_sb, h_sa, h_pr, h_ln, h_la, h_mo, h_out, h_outD⟩ := hW
  have hP0 := hP
  obtain ⟨⟨hD, hDv, hDh⟩, ⟨hRM, hch, hcs⟩, ⟨⟨n0, n1⟩, ⟨s0, s1⟩, hhs⟩, ⟨hm8, hnn, hAg, hNN, hnN, hf9⟩, ⟨T, hSB, hLT, hn38⟩, hPB, ⟨her, hfa, hss, ger, gfa, gss, gms⟩, ⟨gpo, gsi⟩, ⟨hv1, hv2, hvv⟩⟩ := hP
  have hO := hD.inv.ok
  have hI := hD.inv.ts
  have hSt := hD.inv.st
  have hS := hD.inv.sn
  have hR := hRM.1.2
  have hG := gp_inv hD
  have hb0 := hO.b0
  have hbw := hO.bw
  have hbf : ¬ Fr [] s.heap.size b := fun z => z.elim (fun q => q.elim) (fun q => by omega)
  refine v_aload_n X dL_law_2294 2295 rfl 4 rfl ?_
  refine v_aload_n X dL_law_2295 2296 rfl 5 rfl ?_
  refine v_iload X dL_law_2296 2298 rfl 0 rfl ?_
  refine v_iconst X dL_law_2298 2299 rfl ?_
  refine v_iadd X dL_law_2299 2300 rfl ?_
  refine v_scr X hM hX hbl hbf (by omega) (by omega) hLx ha1 dL_law_2300 2301 rfl ?_
  refine v_aload_n X dL_law_2301 2302 rfl 2 rfl ?_
  refine v_mwS X hM (w_X9_prosecutionWeight l hl E x co hs er fa ss a1 (x + 339) lg hO ga1 q0 (by omega) (by omega)) kwL_prosecutionWeight ksL_prosecutionWeight kl_L_302 (As := [.ref x, .int (zI a1), .ref (x + 339)]) rfl rfl (rm_lawW rfl (by omega) (by omega)) dL_law_2302 2305 rfl (k' := kq + 1) (n' := nq + 6) rfl rfl (fsI (fun q q1 q2 => (Or.inr (by omega)))) ⟨h_cm, h_co, h_out⟩ (fun rv H1 lo1 hM hF hpo => ?_)
  obtain ⟨rfl, hw_0⟩ := hpo
  have h_out : PR E (x + 339) [(x + 339, .inl (E 102 4, 1, .inr (.inl (fun _ => zL (sumZ (fun j => if sdC co a1 j = 1 then wtC co a1 j else 0) (co 6 a1).toNat)))))] H1 := hw_0
  replace hzl := Nat.le_trans hzl hF.1
  replace h_cm := h_cm.kept hF 1 rfl (fsd (by omega))
  replace h_co := h_co.kept hF 28 rfl (fsd (by omega))
  replace h_bf := h_bf.kept hF 28 rfl (fsd (by omega))
  replace h_sv := h_sv.kept hF 28 rfl (fsd (by omega))
  replace h_hi := h_hi.kept hF 2 rfl (fsd (by omega))
  replace h_hf := h_hf.kept hF (fsd (by omega))
  replace h_dk := h_dk.kept hF 3 rfl (fsd (by omega))
  replace h_se := h_se.kept hF 5 rfl (fsd (by omega))
  replace h_pg := h_pg.kept hF 1 rfl (fsd (by omega))
  replace h_sb := h_sb.kept hF 1 rfl (fsd (by omega))
  replace h_sa := h_sa.kept hF 1 rfl (fsd (by omega))
  replace h_pr := h_pr.kept hF 10 rfl (fsd (by omega))
  replace h_ln := h_ln.kept hF 1 rfl (fsd (by omega))
  replace h_la := h_la.kept hF 1 rfl (fsd (by omega))
  replace h_mo := h_mo.kept hF 5 rfl (fsd (by omega))
  replace h_outD := h_outD.kept hF 1 rfl (fsd (by omega))
  show V p l e room_1 s m args below meth cd Q 9 H1 lo1 (kq + 1) (nq + 6) 2305 [(5, .int (zI i)), (4, .ref (x + 340)), (3, .ref (x + 339)), (2, .ref (x + 334)), (1, .ref x), (0, .ref b)] [.int (zI 0)]
  refine v_istore X dL_law_2305 2307 rfl (by decide) (L' := [(6, .int (zI 0)), (5, .int (zI i)), (4, .ref (x + 340)), (3, .ref (x + 339)), (2, .ref (x + 334)), (1, .ref x), (0, .ref b)]) rfl ?_
  refine v_aload_n X dL_law_2307 2308 rfl 4 rfl ?_
  refine v_aload_n X dL_law_2308 2309 rfl 6 rfl ?_
  refine v_iload X dL_law_2309 2311 rfl 1 rfl ?_
  refine v_iconst X dL_law_2311 2312 rfl ?_
  refine v_iadd X dL_law_2312 2313 rfl ?_
  refine v_scr X hM hX hbl hbf (by omega) (by omega) hLx ha1 dL_law_2313 2314 rfl ?_
  refine v_muV X hM (h_mo.1) (c_X10_prosecutionWeight l E (x + 334) mo co a1 hO hR hI ga1 q0) kvX10_prosecutionWeight kiX10_prosecutionWeight kl_L_304 (q0 := 0) rfl rfl (As := [.int (zI a1)]) rfl rfl (rm_law rfl (by omega) (by omega)) dL_law_2314 2317 rfl (k' := kq + 1) (n' := nq + 6) rfl rfl (fsI (fun q q1 q2 => (Or.inr (by omega)))) h_mo (fun rv H2 lo2 hM hF hpo => ?_)
  obtain ⟨rfl, hw_0⟩ := hpo
  have h_mo : PR E (x + 334) (modelW E (x + 334) (updC mo 0 (updZ (mo 0) 0 0))) H2 := hw_0
  replace hzl := Nat.le_trans hzl hF.1
  replace h_cm := h_cm.kept hF 1 rfl (fsd (by omega))
  replace h_co := h_co.kept hF 28 rfl (fsd (by omega))
  replace h_bf := h_bf.kept hF 28 rfl (fsd (by omega))
  replace h_sv := h_sv.kept hF 28 rfl (fsd (by omega))
  replace h_hi := h_hi.kept hF 2 rfl (fsd (by omega))
  replace h_hf := h_hf.kept hF (fsd (by omega))
  replace h_dk := h_dk.kept hF 3 rfl (fsd (by omega))
  replace h_se := h_se.kept hF 5 rfl (fsd (by omega))
  replace h_pg := h_pg.kept hF 1 rfl (fsd (by omega))
  replace h_sb := h_sb.kept hF 1 rfl (fsd (by omega))
  replace h_sa := h_sa.kept hF 1 rfl (fsd (by omega))
  replace h_pr := h_pr.kept hF 10 rfl (fsd (by omega))
  replace h_ln := h_ln.kept hF 1 rfl (fsd (by omega))
  replace h_la := h_la.kept hF 1 rfl (fsd (by omega))
  replace h_out := h_out.kept hF 1 rfl (fsd (by omega))
  replace h_outD := h_outD.kept hF 1 rfl (fsd (by omega))
  show V p l e room_1 s m args below meth cd Q 9 H2 lo2 (kq + 1) (nq + 6) 2317 [(6, .int (zI 0)), (5, .int (zI i)), (4, .ref (x + 340)), (3, .ref (x + 339)), (2, .ref (x + 334)), (1, .ref x), (0, .ref b)] [.int (zI (wsC co a1 1))]
  refine v_istore X dL_law_2317 2319 rfl (by decide) (L' := [(7, .int (zI (wsC co a1 1))), (6, .int (zI 0)), (5, .int (zI i)), (4, .ref (x + 340)), (3, .ref (x + 339)), (2, .ref (x + 334)), (1, .ref x), (0, .ref b)]) rfl ?_
  refine v_aload_n X dL_law_2319 2320 rfl 5 rfl ?_
  refine v_rdV X hM.C h_mo.1 (c_X10_thrown l E (x + 334) (updC mo 0 (updZ (mo 0) 0 0))) kvX10_thrown kiX10_thrown kl_L_196 rfl rfl (As := []) rfl rfl (rm_law0 rfl (by omega) (by omega)) dL_law_2320 2323 rfl ?_
  show V p l e room_1 s m args below meth cd Q 9 H2 lo2 (kq + 1) (nq + 6) 2323 [(7, .int (zI (wsC co a1 1))), (6, .int (zI 0)), (5, .int (zI i)), (4, .ref (x + 340)), (3, .ref (x + 339)), (2, .ref (x + 334)), (1, .ref x), (0, .ref b)] [.int (zI 0)]
  refine v_iload X dL_law_2323 2325 rfl 1 rfl ?_
  refine v_icmp_eq X (by omega) (by omega) dL_law_2325 2328 2330 rfl (by decide) (fun c_3 => ?_) (fun c_3 => ?_)
  · skip
    refine v_iload X dL_law_2330 2332 rfl 1 rfl ?_
    refine v_if_ne X (by omega) dL_law_2332 2335 2347 rfl (by decide) (fun c_4 => ?_) (fun c_4 => ?_)
    · skip
      exfalso; omega
    · skip
      refine v_aload_n X dL_law_2335 2336 rfl 4 rfl ?_
      refine v_iconst X dL_law_2336 2337 rfl ?_
      refine v_lald X hM.C h_out.1 0 rfl dL_law_2337 2338 rfl ?_
      show V p l e room_1 s m args below meth cd Q 9 H2 lo2 (kq + 1) (nq + 6) 2338 [(7, .int (zI (wsC co a1 1))), (6, .int (zI 0)), (5, .int (zI i)), (4, .ref (x + 340)), (3, .ref (x + 339)), (2, .ref (x + 334)), (1, .ref x), (0, .ref b)] [.long (zL (sumZ (fun j => if sdC co a1 j = 1 then wtC co a1 j else 0) (co 6 a1).toNat))]
      refine v_iload X dL_law_2338 2340 rfl 0 rfl ?_
      refine v_i2l X dL_law_2340 2341 rfl ?_
      refine V_S (st' := [.long (zL (wsC co a1 1)), .long (zL (wsC co a1 1))]) (by rw [show (sumZ (fun j => if sdC co a1 j = 1 then wtC co a1 j else 0) (co 6 a1).toNat : Int) = wsC co a1 1 from rfl]) ?_
      refine v_lcmp0 X dL_law_2341 2342 rfl ?_
      refine v_if_eq X (by omega) dL_law_2342 2345 2347 rfl (by decide) (fun c_5 => ?_) (fun c_5 => ?_)
      · skip
        refine v_goto X dL_law_2347 3555 (by decide) ?_
        refine v_widen (k' := kq + 60) (n' := nq + 4000) (by omega) (by omega) ?_
        exact V_pick [2, 3, 4, 5, 6, 7] rfl (kk _ _ hM ⟨hzl, _, _, _, _, _, _, _, _, _, _, _, _, _, _, _, _, _, _, _, _, _, _, _, _, _, _, _, _, ⟨h_cm, h_co, h_bf, h_sv, h_hi, h_hf, h_dk, h_se, h_pg, h_sb, h_sa, h_pr, h_ln, h_la, h_mo, h_out, h_outD⟩, hP0.mo_0⟩)
      · skip
        exfalso; omega
  · skip
    exfalso; omega
set_option maxHeartbeats 4000000 in
set_option maxRecDepth 20000 in
theorem lo_prosecutionWeight_1 (hl : l.stackTraces = false) (X : CF p m cd code 9 s args RL) (hX : va_X b Lx xs s s.heap) (hbl : b < s.heap.size) (hLx : Lx ≤ 2560) (hM : MS E [] s H lo) (hk : kq + 60 ≤ 603072) (hn : nq + 4000 ≤ 7211113) (hx : s.heap.size ≤ x) (hzl : x + 341 ≤ H.size) {v : Nat} {N : Nat} {f : Int → Int} {nn : Int} {v2 : Nat} {N2 : Nat} {f2 : Int → Int} {n2 : Int} {co : Nat → Int → Int} {bf : Nat → Int → Int} {cv : Nat → Int → Int} {hc : Nat → Nat → Int → Int} {nx : Int} {sz : Int} {hs : Int} {er : Int} {fa : Int} {ss : Int} {dk : Nat → Int → Int} {se : Nat → Int → Int} {po : Int} {si : Int} {pr : Nat → Int → Int} {ml : Int} {ml2 : Int} {mo : Nat → Int → Int} {lg : Nat → Int64} {dg : Nat → UInt64} (hW : LawW E x v N f nn v2 N2 f2 n2 co bf cv hc nx sz hs er fa ss dk se po si pr ml ml2 mo lg dg H) (hP : LawP x v N f nn v2 N2 f2 n2 co cv hc nx sz hs er fa ss po si pr mo) (i0 : 0 ≤ i) (i1 : i + 5 ≤ (Lx : Int)) {a1 : Int} (ha1 : (xs (i + 1).toNat).toInt = a1) (ga1 : Rg a1) (q0 : ¬ (0 ≤ a1 ∧ a1 < co 0 0)) (kk : ∀ (H1 : Heap) (lo1 : List Loc), MS E [] s H1 lo1 → LawI E x H1 → V p l e room_1 s m args below meth cd Q 9 H1 lo1 (kq + 60) (nq + 4000) 3555 [(5, .int (zI i)), (4, .ref (x + 340)), (3, .ref (x + 339)), (2, .ref (x + 334)), (1, .ref x), (0, .ref b)] []) : V p l e room_1 s m args below meth cd Q 9 H lo kq nq 2294 [(5, .int (zI i)), (4, .ref (x + 340)), (3, .ref (x + 339)), (2, .ref (x + 334)), (1, .ref x), (0, .ref b)] [] := by
  obtain ⟨h_cm, h_co, h_bf, h_sv, h_hi, h_hf, h_dk, h_se, h_pg, h_sb, h_sa, h_pr, h_ln, h_la, h_mo, h_out, h_outD⟩ := hW
  have hP0 := hP
  obtain ⟨⟨hD, hDv, hDh⟩, ⟨hRM, hch, hcs⟩, ⟨⟨n0, n1⟩, ⟨s0, s1⟩, hhs⟩, ⟨hm8, hnn, hAg, hNN, hnN, hf9⟩, ⟨T, hSB, hLT, hn38⟩, hPB, ⟨her, hfa, hss, ger, gfa, gss, gms⟩, ⟨gpo, gsi⟩, ⟨hv1, hv2, hvv⟩⟩ := hP
  have hO := hD.inv.ok
  have hI := hD.inv.ts
  have hSt := hD.inv.st
  have hS := hD.inv.sn
  have hR := hRM.1.2
  have hG := gp_inv hD
  have hb0 := hO.b0
  have hbw := hO.bw
  have hbf : ¬ Fr [] s.heap.size b := fun z => z.elim (fun q => q.elim) (fun q => by omega)
  refine v_aload_n X dL_law_2294 2295 rfl 4 rfl ?_
  refine v_aload_n X dL_law_2295 2296 rfl 5 rfl ?_
  refine v_iload X dL_law_2296 2298 rfl 0 rfl ?_
  refine v_iconst X dL_law_2298 2299 rfl ?_
  refine v_iadd X dL_law_2299 2300 rfl ?_
  refine v_scr X hM hX hbl hbf (by omega) (by omega) hLx ha1 dL_law_2300 2301 rfl ?_
  refine v_aload_n X dL_law_2301 2302 rfl 2 rfl ?_
  refine v_mwS X hM (w_X9_prosecutionWeight_0_t l hl E x co hs er fa ss a1 (x + 339) lg hO ga1 q0) kwL_prosecutionWeight ksL_prosecutionWeight kl_L_302 (As := [.ref x, .int (zI a1), .ref (x + 339)]) rfl rfl (rm_lawW rfl (by omega) (by omega)) dL_law_2302 2305 rfl (k' := kq + 1) (n' := nq + 6) rfl rfl (fun q hq => hq.elim) ⟨h_cm, h_co, h_out⟩ (fun rv H1 lo1 hM hF hpo => ?_)
  subst hpo
  replace hzl := Nat.le_trans hzl hF.1
  replace h_cm := h_cm.kept hF 1 rfl (fun q _ _ h => h.elim)
  replace h_co := h_co.kept hF 28 rfl (fun q _ _ h => h.elim)
  replace h_bf := h_bf.kept hF 28 rfl (fun q _ _ h => h.elim)
  replace h_sv := h_sv.kept hF 28 rfl (fun q _ _ h => h.elim)
  replace h_hi := h_hi.kept hF 2 rfl (fun q _ _ h => h.elim)
  replace h_hf := h_hf.kept hF (fun q _ _ h => h.elim)
  replace h_dk := h_dk.kept hF 3 rfl (fun q _ _ h => h.elim)
  replace h_se := h_se.kept hF 5 rfl (fun q _ _ h => h.elim)
  replace h_pg := h_pg.kept hF 1 rfl (fun q _ _ h => h.elim)
  replace h_sb := h_sb.kept hF 1 rfl (fun q _ _ h => h.elim)
  replace h_sa := h_sa.kept hF 1 rfl (fun q _ _ h => h.elim)
  replace h_pr := h_pr.kept hF 10 rfl (fun q _ _ h => h.elim)
  replace h_ln := h_ln.kept hF 1 rfl (fun q _ _ h => h.elim)
  replace h_la := h_la.kept hF 1 rfl (fun q _ _ h => h.elim)
  replace h_mo := h_mo.kept hF 5 rfl (fun q _ _ h => h.elim)
  replace h_out := h_out.kept hF 1 rfl (fun q _ _ h => h.elim)
  replace h_outD := h_outD.kept hF 1 rfl (fun q _ _ h => h.elim)
  show V p l e room_1 s m args below meth cd Q 9 H1 lo1 (kq + 1) (nq + 6) 2305 [(5, .int (zI i)), (4, .ref (x + 340)), (3, .ref (x + 339)), (2, .ref (x + 334)), (1, .ref x), (0, .ref b)] [.int (zI 1)]
  refine v_istore X dL_law_2305 2307 rfl (by decide) (L' := [(6, .int (zI 1)), (5, .int (zI i)), (4, .ref (x + 340)), (3, .ref (x + 339)), (2, .ref (x + 334)), (1, .ref x), (0, .ref b)]) rfl ?_
  refine v_aload_n X dL_law_2307 2308 rfl 4 rfl ?_
  refine v_aload_n X dL_law_2308 2309 rfl 6 rfl ?_
  refine v_iload X dL_law_2309 2311 rfl 1 rfl ?_
  refine v_iconst X dL_law_2311 2312 rfl ?_
  refine v_iadd X dL_law_2312 2313 rfl ?_
  refine v_scr X hM hX hbl hbf (by omega) (by omega) hLx ha1 dL_law_2313 2314 rfl ?_
  refine v_muV X hM (h_mo.1) (c_X10_prosecutionWeight_0 l E (x + 334) mo co a1 hO hR hI ga1 q0) kvX10_prosecutionWeight kiX10_prosecutionWeight kl_L_304 (q0 := 0) rfl rfl (As := [.int (zI a1)]) rfl rfl (rm_law rfl (by omega) (by omega)) dL_law_2314 2317 rfl (k' := kq + 1) (n' := nq + 6) rfl rfl (fsI (fun q q1 q2 => (Or.inr (by omega)))) h_mo (fun rv H2 lo2 hM hF hpo => ?_)
  obtain ⟨rfl, hw_0⟩ := hpo
  have h_mo : PR E (x + 334) (modelW E (x + 334) (updC mo 0 (updZ (mo 0) 0 1))) H2 := hw_0
  replace hzl := Nat.le_trans hzl hF.1
  replace h_cm := h_cm.kept hF 1 rfl (fsd (by omega))
  replace h_co := h_co.kept hF 28 rfl (fsd (by omega))
  replace h_bf := h_bf.kept hF 28 rfl (fsd (by omega))
  replace h_sv := h_sv.kept hF 28 rfl (fsd (by omega))
  replace h_hi := h_hi.kept hF 2 rfl (fsd (by omega))
  replace h_hf := h_hf.kept hF (fsd (by omega))
  replace h_dk := h_dk.kept hF 3 rfl (fsd (by omega))
  replace h_se := h_se.kept hF 5 rfl (fsd (by omega))
  replace h_pg := h_pg.kept hF 1 rfl (fsd (by omega))
  replace h_sb := h_sb.kept hF 1 rfl (fsd (by omega))
  replace h_sa := h_sa.kept hF 1 rfl (fsd (by omega))
  replace h_pr := h_pr.kept hF 10 rfl (fsd (by omega))
  replace h_ln := h_ln.kept hF 1 rfl (fsd (by omega))
  replace h_la := h_la.kept hF 1 rfl (fsd (by omega))
  replace h_out := h_out.kept hF 1 rfl (fsd (by omega))
  replace h_outD := h_outD.kept hF 1 rfl (fsd (by omega))
  show V p l e room_1 s m args below meth cd Q 9 H2 lo2 (kq + 1) (nq + 6) 2317 [(6, .int (zI 1)), (5, .int (zI i)), (4, .ref (x + 340)), (3, .ref (x + 339)), (2, .ref (x + 334)), (1, .ref x), (0, .ref b)] [.int (zI 0)]
  refine v_istore X dL_law_2317 2319 rfl (by decide) (L' := [(7, .int (zI 0)), (6, .int (zI 1)), (5, .int (zI i)), (4, .ref (x + 340)), (3, .ref (x + 339)), (2, .ref (x + 334)), (1, .ref x), (0, .ref b)]) rfl ?_
  refine v_aload_n X dL_law_2319 2320 rfl 5 rfl ?_
  refine v_rdV X hM.C h_mo.1 (c_X10_thrown l E (x + 334) (updC mo 0 (updZ (mo 0) 0 1))) kvX10_thrown kiX10_thrown kl_L_196 rfl rfl (As := []) rfl rfl (rm_law0 rfl (by omega) (by omega)) dL_law_2320 2323 rfl ?_
  show V p l e room_1 s m args below meth cd Q 9 H2 lo2 (kq + 1) (nq + 6) 2323 [(7, .int (zI 0)), (6, .int (zI 1)), (5, .int (zI i)), (4, .ref (x + 340)), (3, .ref (x + 339)), (2, .ref (x + 334)), (1, .ref x), (0, .ref b)] [.int (zI 1)]
  refine v_iload X dL_law_2323 2325 rfl 1 rfl ?_
  refine v_icmp_eq X (by omega) (by omega) dL_law_2325 2328 2330 rfl (by decide) (fun c_3 => ?_) (fun c_3 => ?_)
  · skip
    refine v_iload X dL_law_2330 2332 rfl 1 rfl ?_
    refine v_if_ne X (by omega) dL_law_2332 2335 2347 rfl (by decide) (fun c_4 => ?_) (fun c_4 => ?_)
    · skip
      refine v_goto X dL_law_2347 3555 (by decide) ?_
      refine v_widen (k' := kq + 60) (n' := nq + 4000) (by omega) (by omega) ?_
      exact V_pick [2, 3, 4, 5, 6, 7] rfl (kk _ _ hM ⟨hzl, _, _, _, _, _, _, _, _, _, _, _, _, _, _, _, _, _, _, _, _, _, _, _, _, _, _, _, _, ⟨h_cm, h_co, h_bf, h_sv, h_hi, h_hf, h_dk, h_se, h_pg, h_sb, h_sa, h_pr, h_ln, h_la, h_mo, h_out, h_outD⟩, hP0.mo_0⟩)
    · skip
      exfalso; omega
  · skip
    exfalso; omega
set_option maxHeartbeats 4000000 in
set_option maxRecDepth 20000 in
theorem lo_defenceWeight (hl : l.stackTraces = false) (X : CF p m cd code 9 s args RL) (hX : va_X b Lx xs s s.heap) (hbl : b < s.heap.size) (hLx : Lx ≤ 2560) (hM : MS E [] s H lo) (hk : kq + 60 ≤ 603072) (hn : nq + 4000 ≤ 7211113) (hx : s.heap.size ≤ x) (hzl : x + 341 ≤ H.size) {v : Nat} {N : Nat} {f : Int → Int} {nn : Int} {v2 : Nat} {N2 : Nat} {f2 : Int → Int} {n2 : Int} {co : Nat → Int → Int} {bf : Nat → Int → Int} {cv : Nat → Int → Int} {hc : Nat → Nat → Int → Int} {nx : Int} {sz : Int} {hs : Int} {er : Int} {fa : Int} {ss : Int} {dk : Nat → Int → Int} {se : Nat → Int → Int} {po : Int} {si : Int} {pr : Nat → Int → Int} {ml : Int} {ml2 : Int} {mo : Nat → Int → Int} {lg : Nat → Int64} {dg : Nat → UInt64} (hW : LawW E x v N f nn v2 N2 f2 n2 co bf cv hc nx sz hs er fa ss dk se po si pr ml ml2 mo lg dg H) (hP : LawP x v N f nn v2 N2 f2 n2 co cv hc nx sz hs er fa ss po si pr mo) (i0 : 0 ≤ i) (i1 : i + 5 ≤ (Lx : Int)) {a1 : Int} (ha1 : (xs (i + 1).toNat).toInt = a1) (ga1 : Rg a1) (q0 : 0 ≤ a1 ∧ a1 < co 0 0) (kk : ∀ (H1 : Heap) (lo1 : List Loc), MS E [] s H1 lo1 → LawI E x H1 → V p l e room_1 s m args below meth cd Q 9 H1 lo1 (kq + 60) (nq + 4000) 3555 [(5, .int (zI i)), (4, .ref (x + 340)), (3, .ref (x + 339)), (2, .ref (x + 334)), (1, .ref x), (0, .ref b)] []) : V p l e room_1 s m args below meth cd Q 9 H lo kq nq 2350 [(5, .int (zI i)), (4, .ref (x + 340)), (3, .ref (x + 339)), (2, .ref (x + 334)), (1, .ref x), (0, .ref b)] [] := by
  obtain ⟨h_cm, h_co, h_bf, h_sv, h_hi, h_hf, h_dk, h_se, h_pg, h_sb, h_sa, h_pr, h_ln, h_la, h_mo, h_out, h_outD⟩ := hW
  have hP0 := hP
  obtain ⟨⟨hD, hDv, hDh⟩, ⟨hRM, hch, hcs⟩, ⟨⟨n0, n1⟩, ⟨s0, s1⟩, hhs⟩, ⟨hm8, hnn, hAg, hNN, hnN, hf9⟩, ⟨T, hSB, hLT, hn38⟩, hPB, ⟨her, hfa, hss, ger, gfa, gss, gms⟩, ⟨gpo, gsi⟩, ⟨hv1, hv2, hvv⟩⟩ := hP
  have hO := hD.inv.ok
  have hI := hD.inv.ts
  have hSt := hD.inv.st
  have hS := hD.inv.sn
  have hR := hRM.1.2
  have hG := gp_inv hD
  have hb0 := hO.b0
  have hbw := hO.bw
  have hbf : ¬ Fr [] s.heap.size b := fun z => z.elim (fun q => q.elim) (fun q => by omega)
  refine v_aload_n X dL_law_2350 2351 rfl 4 rfl ?_
  refine v_aload_n X dL_law_2351 2352 rfl 5 rfl ?_
  refine v_iload X dL_law_2352 2354 rfl 0 rfl ?_
  refine v_iconst X dL_law_2354 2355 rfl ?_
  refine v_iadd X dL_law_2355 2356 rfl ?_
  refine v_scr X hM hX hbl hbf (by omega) (by omega) hLx ha1 dL_law_2356 2357 rfl ?_
  refine v_aload_n X dL_law_2357 2358 rfl 2 rfl ?_
  refine v_mwS X hM (w_X9_defenceWeight l hl E x co hs er fa ss a1 (x + 339) lg hO ga1 q0 (by omega) (by omega)) kwL_defenceWeight ksL_defenceWeight kl_L_305 (As := [.ref x, .int (zI a1), .ref (x + 339)]) rfl rfl (rm_lawW rfl (by omega) (by omega)) dL_law_2358 2361 rfl (k' := kq + 1) (n' := nq + 6) rfl rfl (fsI (fun q q1 q2 => (Or.inr (by omega)))) ⟨h_cm, h_co, h_out⟩ (fun rv H1 lo1 hM hF hpo => ?_)
  obtain ⟨rfl, hw_0⟩ := hpo
  have h_out : PR E (x + 339) [(x + 339, .inl (E 102 4, 1, .inr (.inl (fun _ => zL (sumZ (fun j => if sdC co a1 j = (-1) then wtC co a1 j else 0) (co 6 a1).toNat)))))] H1 := hw_0
  replace hzl := Nat.le_trans hzl hF.1
  replace h_cm := h_cm.kept hF 1 rfl (fsd (by omega))
  replace h_co := h_co.kept hF 28 rfl (fsd (by omega))
  replace h_bf := h_bf.kept hF 28 rfl (fsd (by omega))
  replace h_sv := h_sv.kept hF 28 rfl (fsd (by omega))
  replace h_hi := h_hi.kept hF 2 rfl (fsd (by omega))
  replace h_hf := h_hf.kept hF (fsd (by omega))
  replace h_dk := h_dk.kept hF 3 rfl (fsd (by omega))
  replace h_se := h_se.kept hF 5 rfl (fsd (by omega))
  replace h_pg := h_pg.kept hF 1 rfl (fsd (by omega))
  replace h_sb := h_sb.kept hF 1 rfl (fsd (by omega))
  replace h_sa := h_sa.kept hF 1 rfl (fsd (by omega))
  replace h_pr := h_pr.kept hF 10 rfl (fsd (by omega))
  replace h_ln := h_ln.kept hF 1 rfl (fsd (by omega))
  replace h_la := h_la.kept hF 1 rfl (fsd (by omega))
  replace h_mo := h_mo.kept hF 5 rfl (fsd (by omega))
  replace h_outD := h_outD.kept hF 1 rfl (fsd (by omega))
  show V p l e room_1 s m args below meth cd Q 9 H1 lo1 (kq + 1) (nq + 6) 2361 [(5, .int (zI i)), (4, .ref (x + 340)), (3, .ref (x + 339)), (2, .ref (x + 334)), (1, .ref x), (0, .ref b)] [.int (zI 0)]
  refine v_istore X dL_law_2361 2363 rfl (by decide) (L' := [(6, .int (zI 0)), (5, .int (zI i)), (4, .ref (x + 340)), (3, .ref (x + 339)), (2, .ref (x + 334)), (1, .ref x), (0, .ref b)]) rfl ?_
  refine v_aload_n X dL_law_2363 2364 rfl 4 rfl ?_
  refine v_aload_n X dL_law_2364 2365 rfl 6 rfl ?_
  refine v_iload X dL_law_2365 2367 rfl 1 rfl ?_
  refine v_iconst X dL_law_2367 2368 rfl ?_
  refine v_iadd X dL_law_2368 2369 rfl ?_
  refine v_scr X hM hX hbl hbf (by omega) (by omega) hLx ha1 dL_law_2369 2370 rfl ?_
  refine v_muV X hM (h_mo.1) (c_X10_defenceWeight l E (x + 334) mo co a1 hO hR hI ga1 q0) kvX10_defenceWeight kiX10_defenceWeight kl_L_307 (q0 := 0) rfl rfl (As := [.int (zI a1)]) rfl rfl (rm_law rfl (by omega) (by omega)) dL_law_2370 2373 rfl (k' := kq + 1) (n' := nq + 6) rfl rfl (fsI (fun q q1 q2 => (Or.inr (by omega)))) h_mo (fun rv H2 lo2 hM hF hpo => ?_)
  obtain ⟨rfl, hw_0⟩ := hpo
  have h_mo : PR E (x + 334) (modelW E (x + 334) (updC mo 0 (updZ (mo 0) 0 0))) H2 := hw_0
  replace hzl := Nat.le_trans hzl hF.1
  replace h_cm := h_cm.kept hF 1 rfl (fsd (by omega))
  replace h_co := h_co.kept hF 28 rfl (fsd (by omega))
  replace h_bf := h_bf.kept hF 28 rfl (fsd (by omega))
  replace h_sv := h_sv.kept hF 28 rfl (fsd (by omega))
  replace h_hi := h_hi.kept hF 2 rfl (fsd (by omega))
  replace h_hf := h_hf.kept hF (fsd (by omega))
  replace h_dk := h_dk.kept hF 3 rfl (fsd (by omega))
  replace h_se := h_se.kept hF 5 rfl (fsd (by omega))
  replace h_pg := h_pg.kept hF 1 rfl (fsd (by omega))
  replace h_sb := h_sb.kept hF 1 rfl (fsd (by omega))
  replace h_sa := h_sa.kept hF 1 rfl (fsd (by omega))
  replace h_pr := h_pr.kept hF 10 rfl (fsd (by omega))
  replace h_ln := h_ln.kept hF 1 rfl (fsd (by omega))
  replace h_la := h_la.kept hF 1 rfl (fsd (by omega))
  replace h_out := h_out.kept hF 1 rfl (fsd (by omega))
  replace h_outD := h_outD.kept hF 1 rfl (fsd (by omega))
  show V p l e room_1 s m args below meth cd Q 9 H2 lo2 (kq + 1) (nq + 6) 2373 [(6, .int (zI 0)), (5, .int (zI i)), (4, .ref (x + 340)), (3, .ref (x + 339)), (2, .ref (x + 334)), (1, .ref x), (0, .ref b)] [.int (zI (wsC co a1 (-1)))]
  refine v_istore X dL_law_2373 2375 rfl (by decide) (L' := [(7, .int (zI (wsC co a1 (-1)))), (6, .int (zI 0)), (5, .int (zI i)), (4, .ref (x + 340)), (3, .ref (x + 339)), (2, .ref (x + 334)), (1, .ref x), (0, .ref b)]) rfl ?_
  refine v_aload_n X dL_law_2375 2376 rfl 5 rfl ?_
  refine v_rdV X hM.C h_mo.1 (c_X10_thrown l E (x + 334) (updC mo 0 (updZ (mo 0) 0 0))) kvX10_thrown kiX10_thrown kl_L_196 rfl rfl (As := []) rfl rfl (rm_law0 rfl (by omega) (by omega)) dL_law_2376 2379 rfl ?_
  show V p l e room_1 s m args below meth cd Q 9 H2 lo2 (kq + 1) (nq + 6) 2379 [(7, .int (zI (wsC co a1 (-1)))), (6, .int (zI 0)), (5, .int (zI i)), (4, .ref (x + 340)), (3, .ref (x + 339)), (2, .ref (x + 334)), (1, .ref x), (0, .ref b)] [.int (zI 0)]
  refine v_iload X dL_law_2379 2381 rfl 1 rfl ?_
  refine v_icmp_eq X (by omega) (by omega) dL_law_2381 2384 2386 rfl (by decide) (fun c_3 => ?_) (fun c_3 => ?_)
  · skip
    refine v_iload X dL_law_2386 2388 rfl 1 rfl ?_
    refine v_if_ne X (by omega) dL_law_2388 2391 2403 rfl (by decide) (fun c_4 => ?_) (fun c_4 => ?_)
    · skip
      exfalso; omega
    · skip
      refine v_aload_n X dL_law_2391 2392 rfl 4 rfl ?_
      refine v_iconst X dL_law_2392 2393 rfl ?_
      refine v_lald X hM.C h_out.1 0 rfl dL_law_2393 2394 rfl ?_
      show V p l e room_1 s m args below meth cd Q 9 H2 lo2 (kq + 1) (nq + 6) 2394 [(7, .int (zI (wsC co a1 (-1)))), (6, .int (zI 0)), (5, .int (zI i)), (4, .ref (x + 340)), (3, .ref (x + 339)), (2, .ref (x + 334)), (1, .ref x), (0, .ref b)] [.long (zL (sumZ (fun j => if sdC co a1 j = (-1) then wtC co a1 j else 0) (co 6 a1).toNat))]
      refine v_iload X dL_law_2394 2396 rfl 0 rfl ?_
      refine v_i2l X dL_law_2396 2397 rfl ?_
      refine V_S (st' := [.long (zL (wsC co a1 (-1))), .long (zL (wsC co a1 (-1)))]) (by rw [show (sumZ (fun j => if sdC co a1 j = (-1) then wtC co a1 j else 0) (co 6 a1).toNat : Int) = wsC co a1 (-1) from rfl]) ?_
      refine v_lcmp0 X dL_law_2397 2398 rfl ?_
      refine v_if_eq X (by omega) dL_law_2398 2401 2403 rfl (by decide) (fun c_5 => ?_) (fun c_5 => ?_)
      · skip
        refine v_goto X dL_law_2403 3555 (by decide) ?_
        refine v_widen (k' := kq + 60) (n' := nq + 4000) (by omega) (by omega) ?_
        exact V_pick [2, 3, 4, 5, 6, 7] rfl (kk _ _ hM ⟨hzl, _, _, _, _, _, _, _, _, _, _, _, _, _, _, _, _, _, _, _, _, _, _, _, _, _, _, _, _, ⟨h_cm, h_co, h_bf, h_sv, h_hi, h_hf, h_dk, h_se, h_pg, h_sb, h_sa, h_pr, h_ln, h_la, h_mo, h_out, h_outD⟩, hP0.mo_0⟩)
      · skip
        exfalso; omega
  · skip
    exfalso; omega
set_option maxHeartbeats 4000000 in
set_option maxRecDepth 20000 in
theorem lo_defenceWeight_1 (hl : l.stackTraces = false) (X : CF p m cd code 9 s args RL) (hX : va_X b Lx xs s s.heap) (hbl : b < s.heap.size) (hLx : Lx ≤ 2560) (hM : MS E [] s H lo) (hk : kq + 60 ≤ 603072) (hn : nq + 4000 ≤ 7211113) (hx : s.heap.size ≤ x) (hzl : x + 341 ≤ H.size) {v : Nat} {N : Nat} {f : Int → Int} {nn : Int} {v2 : Nat} {N2 : Nat} {f2 : Int → Int} {n2 : Int} {co : Nat → Int → Int} {bf : Nat → Int → Int} {cv : Nat → Int → Int} {hc : Nat → Nat → Int → Int} {nx : Int} {sz : Int} {hs : Int} {er : Int} {fa : Int} {ss : Int} {dk : Nat → Int → Int} {se : Nat → Int → Int} {po : Int} {si : Int} {pr : Nat → Int → Int} {ml : Int} {ml2 : Int} {mo : Nat → Int → Int} {lg : Nat → Int64} {dg : Nat → UInt64} (hW : LawW E x v N f nn v2 N2 f2 n2 co bf cv hc nx sz hs er fa ss dk se po si pr ml ml2 mo lg dg H) (hP : LawP x v N f nn v2 N2 f2 n2 co cv hc nx sz hs er fa ss po si pr mo) (i0 : 0 ≤ i) (i1 : i + 5 ≤ (Lx : Int)) {a1 : Int} (ha1 : (xs (i + 1).toNat).toInt = a1) (ga1 : Rg a1) (q0 : ¬ (0 ≤ a1 ∧ a1 < co 0 0)) (kk : ∀ (H1 : Heap) (lo1 : List Loc), MS E [] s H1 lo1 → LawI E x H1 → V p l e room_1 s m args below meth cd Q 9 H1 lo1 (kq + 60) (nq + 4000) 3555 [(5, .int (zI i)), (4, .ref (x + 340)), (3, .ref (x + 339)), (2, .ref (x + 334)), (1, .ref x), (0, .ref b)] []) : V p l e room_1 s m args below meth cd Q 9 H lo kq nq 2350 [(5, .int (zI i)), (4, .ref (x + 340)), (3, .ref (x + 339)), (2, .ref (x + 334)), (1, .ref x), (0, .ref b)] [] := by
  obtain ⟨h_cm, h_co, h_bf, h_sv, h_hi, h_hf, h_dk, h_se, h_pg, h_sb, h_sa, h_pr, h_ln, h_la, h_mo, h_out, h_outD⟩ := hW
  have hP0 := hP
  obtain ⟨⟨hD, hDv, hDh⟩, ⟨hRM, hch, hcs⟩, ⟨⟨n0, n1⟩, ⟨s0, s1⟩, hhs⟩, ⟨hm8, hnn, hAg, hNN, hnN, hf9⟩, ⟨T, hSB, hLT, hn38⟩, hPB, ⟨her, hfa, hss, ger, gfa, gss, gms⟩, ⟨gpo, gsi⟩, ⟨hv1, hv2, hvv⟩⟩ := hP
  have hO := hD.inv.ok
  have hI := hD.inv.ts
  have hSt := hD.inv.st
  have hS := hD.inv.sn
  have hR := hRM.1.2
  have hG := gp_inv hD
  have hb0 := hO.b0
  have hbw := hO.bw
  have hbf : ¬ Fr [] s.heap.size b := fun z => z.elim (fun q => q.elim) (fun q => by omega)
  refine v_aload_n X dL_law_2350 2351 rfl 4 rfl ?_
  refine v_aload_n X dL_law_2351 2352 rfl 5 rfl ?_
  refine v_iload X dL_law_2352 2354 rfl 0 rfl ?_
  refine v_iconst X dL_law_2354 2355 rfl ?_
  refine v_iadd X dL_law_2355 2356 rfl ?_
  refine v_scr X hM hX hbl hbf (by omega) (by omega) hLx ha1 dL_law_2356 2357 rfl ?_
  refine v_aload_n X dL_law_2357 2358 rfl 2 rfl ?_
  refine v_mwS X hM (w_X9_defenceWeight_0_t l hl E x co hs er fa ss a1 (x + 339) lg hO ga1 q0) kwL_defenceWeight ksL_defenceWeight kl_L_305 (As := [.ref x, .int (zI a1), .ref (x + 339)]) rfl rfl (rm_lawW rfl (by omega) (by omega)) dL_law_2358 2361 rfl (k' := kq + 1) (n' := nq + 6) rfl rfl (fun q hq => hq.elim) ⟨h_cm, h_co, h_out⟩ (fun rv H1 lo1 hM hF hpo => ?_)
  subst hpo
  replace hzl := Nat.le_trans hzl hF.1
  replace h_cm := h_cm.kept hF 1 rfl (fun q _ _ h => h.elim)
  replace h_co := h_co.kept hF 28 rfl (fun q _ _ h => h.elim)
  replace h_bf := h_bf.kept hF 28 rfl (fun q _ _ h => h.elim)
  replace h_sv := h_sv.kept hF 28 rfl (fun q _ _ h => h.elim)
  replace h_hi := h_hi.kept hF 2 rfl (fun q _ _ h => h.elim)
  replace h_hf := h_hf.kept hF (fun q _ _ h => h.elim)
  replace h_dk := h_dk.kept hF 3 rfl (fun q _ _ h => h.elim)
  replace h_se := h_se.kept hF 5 rfl (fun q _ _ h => h.elim)
  replace h_pg := h_pg.kept hF 1 rfl (fun q _ _ h => h.elim)
  replace h_sb := h_sb.kept hF 1 rfl (fun q _ _ h => h.elim)
  replace h_sa := h_sa.kept hF 1 rfl (fun q _ _ h => h.elim)
  replace h_pr := h_pr.kept hF 10 rfl (fun q _ _ h => h.elim)
  replace h_ln := h_ln.kept hF 1 rfl (fun q _ _ h => h.elim)
  replace h_la := h_la.kept hF 1 rfl (fun q _ _ h => h.elim)
  replace h_mo := h_mo.kept hF 5 rfl (fun q _ _ h => h.elim)
  replace h_out := h_out.kept hF 1 rfl (fun q _ _ h => h.elim)
  replace h_outD := h_outD.kept hF 1 rfl (fun q _ _ h => h.elim)
  show V p l e room_1 s m args below meth cd Q 9 H1 lo1 (kq + 1) (nq + 6) 2361 [(5, .int (zI i)), (4, .ref (x + 340)), (3, .ref (x + 339)), (2, .ref (x + 334)), (1, .ref x), (0, .ref b)] [.int (zI 1)]
  refine v_istore X dL_law_2361 2363 rfl (by decide) (L' := [(6, .int (zI 1)), (5, .int (zI i)), (4, .ref (x + 340)), (3, .ref (x + 339)), (2, .ref (x + 334)), (1, .ref x), (0, .ref b)]) rfl ?_
  refine v_aload_n X dL_law_2363 2364 rfl 4 rfl ?_
  refine v_aload_n X dL_law_2364 2365 rfl 6 rfl ?_
  refine v_iload X dL_law_2365 2367 rfl 1 rfl ?_
  refine v_iconst X dL_law_2367 2368 rfl ?_
  refine v_iadd X dL_law_2368 2369 rfl ?_
  refine v_scr X hM hX hbl hbf (by omega) (by omega) hLx ha1 dL_law_2369 2370 rfl ?_
  refine v_muV X hM (h_mo.1) (c_X10_defenceWeight_0 l E (x + 334) mo co a1 hO hR hI ga1 q0) kvX10_defenceWeight kiX10_defenceWeight kl_L_307 (q0 := 0) rfl rfl (As := [.int (zI a1)]) rfl rfl (rm_law rfl (by omega) (by omega)) dL_law_2370 2373 rfl (k' := kq + 1) (n' := nq + 6) rfl rfl (fsI (fun q q1 q2 => (Or.inr (by omega)))) h_mo (fun rv H2 lo2 hM hF hpo => ?_)
  obtain ⟨rfl, hw_0⟩ := hpo
  have h_mo : PR E (x + 334) (modelW E (x + 334) (updC mo 0 (updZ (mo 0) 0 1))) H2 := hw_0
  replace hzl := Nat.le_trans hzl hF.1
  replace h_cm := h_cm.kept hF 1 rfl (fsd (by omega))
  replace h_co := h_co.kept hF 28 rfl (fsd (by omega))
  replace h_bf := h_bf.kept hF 28 rfl (fsd (by omega))
  replace h_sv := h_sv.kept hF 28 rfl (fsd (by omega))
  replace h_hi := h_hi.kept hF 2 rfl (fsd (by omega))
  replace h_hf := h_hf.kept hF (fsd (by omega))
  replace h_dk := h_dk.kept hF 3 rfl (fsd (by omega))
  replace h_se := h_se.kept hF 5 rfl (fsd (by omega))
  replace h_pg := h_pg.kept hF 1 rfl (fsd (by omega))
  replace h_sb := h_sb.kept hF 1 rfl (fsd (by omega))
  replace h_sa := h_sa.kept hF 1 rfl (fsd (by omega))
  replace h_pr := h_pr.kept hF 10 rfl (fsd (by omega))
  replace h_ln := h_ln.kept hF 1 rfl (fsd (by omega))
  replace h_la := h_la.kept hF 1 rfl (fsd (by omega))
  replace h_out := h_out.kept hF 1 rfl (fsd (by omega))
  replace h_outD := h_outD.kept hF 1 rfl (fsd (by omega))
  show V p l e room_1 s m args below meth cd Q 9 H2 lo2 (kq + 1) (nq + 6) 2373 [(6, .int (zI 1)), (5, .int (zI i)), (4, .ref (x + 340)), (3, .ref (x + 339)), (2, .ref (x + 334)), (1, .ref x), (0, .ref b)] [.int (zI 0)]
  refine v_istore X dL_law_2373 2375 rfl (by decide) (L' := [(7, .int (zI 0)), (6, .int (zI 1)), (5, .int (zI i)), (4, .ref (x + 340)), (3, .ref (x + 339)), (2, .ref (x + 334)), (1, .ref x), (0, .ref b)]) rfl ?_
  refine v_aload_n X dL_law_2375 2376 rfl 5 rfl ?_
  refine v_rdV X hM.C h_mo.1 (c_X10_thrown l E (x + 334) (updC mo 0 (updZ (mo 0) 0 1))) kvX10_thrown kiX10_thrown kl_L_196 rfl rfl (As := []) rfl rfl (rm_law0 rfl (by omega) (by omega)) dL_law_2376 2379 rfl ?_
  show V p l e room_1 s m args below meth cd Q 9 H2 lo2 (kq + 1) (nq + 6) 2379 [(7, .int (zI 0)), (6, .int (zI 1)), (5, .int (zI i)), (4, .ref (x + 340)), (3, .ref (x + 339)), (2, .ref (x + 334)), (1, .ref x), (0, .ref b)] [.int (zI 1)]
  refine v_iload X dL_law_2379 2381 rfl 1 rfl ?_
  refine v_icmp_eq X (by omega) (by omega) dL_law_2381 2384 2386 rfl (by decide) (fun c_3 => ?_) (fun c_3 => ?_)
  · skip
    refine v_iload X dL_law_2386 2388 rfl 1 rfl ?_
    refine v_if_ne X (by omega) dL_law_2388 2391 2403 rfl (by decide) (fun c_4 => ?_) (fun c_4 => ?_)
    · skip
      refine v_goto X dL_law_2403 3555 (by decide) ?_
      refine v_widen (k' := kq + 60) (n' := nq + 4000) (by omega) (by omega) ?_
      exact V_pick [2, 3, 4, 5, 6, 7] rfl (kk _ _ hM ⟨hzl, _, _, _, _, _, _, _, _, _, _, _, _, _, _, _, _, _, _, _, _, _, _, _, _, _, _, _, _, ⟨h_cm, h_co, h_bf, h_sv, h_hi, h_hf, h_dk, h_se, h_pg, h_sb, h_sa, h_pr, h_ln, h_la, h_mo, h_out, h_outD⟩, hP0.mo_0⟩)
    · skip
      exfalso; omega
  · skip
    exfalso; omega
set_option maxHeartbeats 4000000 in
set_option maxRecDepth 20000 in
theorem lo_margin (hl : l.stackTraces = false) (X : CF p m cd code 9 s args RL) (hX : va_X b Lx xs s s.heap) (hbl : b < s.heap.size) (hLx : Lx ≤ 2560) (hM : MS E [] s H lo) (hk : kq + 60 ≤ 603072) (hn : nq + 4000 ≤ 7211113) (hx : s.heap.size ≤ x) (hzl : x + 341 ≤ H.size) {v : Nat} {N : Nat} {f : Int → Int} {nn : Int} {v2 : Nat} {N2 : Nat} {f2 : Int → Int} {n2 : Int} {co : Nat → Int → Int} {bf : Nat → Int → Int} {cv : Nat → Int → Int} {hc : Nat → Nat → Int → Int} {nx : Int} {sz : Int} {hs : Int} {er : Int} {fa : Int} {ss : Int} {dk : Nat → Int → Int} {se : Nat → Int → Int} {po : Int} {si : Int} {pr : Nat → Int → Int} {ml : Int} {ml2 : Int} {mo : Nat → Int → Int} {lg : Nat → Int64} {dg : Nat → UInt64} (hW : LawW E x v N f nn v2 N2 f2 n2 co bf cv hc nx sz hs er fa ss dk se po si pr ml ml2 mo lg dg H) (hP : LawP x v N f nn v2 N2 f2 n2 co cv hc nx sz hs er fa ss po si pr mo) (i0 : 0 ≤ i) (i1 : i + 5 ≤ (Lx : Int)) {a1 : Int} (ha1 : (xs (i + 1).toNat).toInt = a1) (ga1 : Rg a1) (q0 : 0 ≤ a1 ∧ a1 < co 0 0) (kk : ∀ (H1 : Heap) (lo1 : List Loc), MS E [] s H1 lo1 → LawI E x H1 → V p l e room_1 s m args below meth cd Q 9 H1 lo1 (kq + 60) (nq + 4000) 3555 [(5, .int (zI i)), (4, .ref (x + 340)), (3, .ref (x + 339)), (2, .ref (x + 334)), (1, .ref x), (0, .ref b)] []) : V p l e room_1 s m args below meth cd Q 9 H lo kq nq 2406 [(5, .int (zI i)), (4, .ref (x + 340)), (3, .ref (x + 339)), (2, .ref (x + 334)), (1, .ref x), (0, .ref b)] [] := by
  obtain ⟨h_cm, h_co, h_bf, h_sv, h_hi, h_hf, h_dk, h_se, h_pg, h_sb, h_sa, h_pr, h_ln, h_la, h_mo, h_out, h_outD⟩ := hW
  have hP0 := hP
  obtain ⟨⟨hD, hDv, hDh⟩, ⟨hRM, hch, hcs⟩, ⟨⟨n0, n1⟩, ⟨s0, s1⟩, hhs⟩, ⟨hm8, hnn, hAg, hNN, hnN, hf9⟩, ⟨T, hSB, hLT, hn38⟩, hPB, ⟨her, hfa, hss, ger, gfa, gss, gms⟩, ⟨gpo, gsi⟩, ⟨hv1, hv2, hvv⟩⟩ := hP
  have hO := hD.inv.ok
  have hI := hD.inv.ts
  have hSt := hD.inv.st
  have hS := hD.inv.sn
  have hR := hRM.1.2
  have hG := gp_inv hD
  have hb0 := hO.b0
  have hbw := hO.bw
  have hbf : ¬ Fr [] s.heap.size b := fun z => z.elim (fun q => q.elim) (fun q => by omega)
  refine v_aload_n X dL_law_2406 2407 rfl 4 rfl ?_
  refine v_aload_n X dL_law_2407 2408 rfl 5 rfl ?_
  refine v_iload X dL_law_2408 2410 rfl 0 rfl ?_
  refine v_iconst X dL_law_2410 2411 rfl ?_
  refine v_iadd X dL_law_2411 2412 rfl ?_
  refine v_scr X hM hX hbl hbf (by omega) (by omega) hLx ha1 dL_law_2412 2413 rfl ?_
  refine v_aload_n X dL_law_2413 2414 rfl 2 rfl ?_
  refine v_mwS X hM (w_X9_margin l hl E x co hs er fa ss a1 (x + 339) lg hO ga1 q0 (by omega) (by omega)) kwL_margin ksL_margin kl_L_308 (As := [.ref x, .int (zI a1), .ref (x + 339)]) rfl rfl (rm_lawW rfl (by omega) (by omega)) dL_law_2414 2417 rfl (k' := kq + 1) (n' := nq + 6) rfl rfl (fsI (fun q q1 q2 => (Or.inr (by omega)))) ⟨h_cm, h_co, h_out⟩ (fun rv H1 lo1 hM hF hpo => ?_)
  obtain ⟨rfl, hw_0⟩ := hpo
  have h_out : PR E (x + 339) [(x + 339, .inl (E 102 4, 1, .inr (.inl (fun _ => zL (mgC co a1)))))] H1 := hw_0
  replace hzl := Nat.le_trans hzl hF.1
  replace h_cm := h_cm.kept hF 1 rfl (fsd (by omega))
  replace h_co := h_co.kept hF 28 rfl (fsd (by omega))
  replace h_bf := h_bf.kept hF 28 rfl (fsd (by omega))
  replace h_sv := h_sv.kept hF 28 rfl (fsd (by omega))
  replace h_hi := h_hi.kept hF 2 rfl (fsd (by omega))
  replace h_hf := h_hf.kept hF (fsd (by omega))
  replace h_dk := h_dk.kept hF 3 rfl (fsd (by omega))
  replace h_se := h_se.kept hF 5 rfl (fsd (by omega))
  replace h_pg := h_pg.kept hF 1 rfl (fsd (by omega))
  replace h_sb := h_sb.kept hF 1 rfl (fsd (by omega))
  replace h_sa := h_sa.kept hF 1 rfl (fsd (by omega))
  replace h_pr := h_pr.kept hF 10 rfl (fsd (by omega))
  replace h_ln := h_ln.kept hF 1 rfl (fsd (by omega))
  replace h_la := h_la.kept hF 1 rfl (fsd (by omega))
  replace h_mo := h_mo.kept hF 5 rfl (fsd (by omega))
  replace h_outD := h_outD.kept hF 1 rfl (fsd (by omega))
  show V p l e room_1 s m args below meth cd Q 9 H1 lo1 (kq + 1) (nq + 6) 2417 [(5, .int (zI i)), (4, .ref (x + 340)), (3, .ref (x + 339)), (2, .ref (x + 334)), (1, .ref x), (0, .ref b)] [.int (zI 0)]
  refine v_istore X dL_law_2417 2419 rfl (by decide) (L' := [(6, .int (zI 0)), (5, .int (zI i)), (4, .ref (x + 340)), (3, .ref (x + 339)), (2, .ref (x + 334)), (1, .ref x), (0, .ref b)]) rfl ?_
  refine v_aload_n X dL_law_2419 2420 rfl 4 rfl ?_
  refine v_aload_n X dL_law_2420 2421 rfl 6 rfl ?_
  refine v_iload X dL_law_2421 2423 rfl 1 rfl ?_
  refine v_iconst X dL_law_2423 2424 rfl ?_
  refine v_iadd X dL_law_2424 2425 rfl ?_
  refine v_scr X hM hX hbl hbf (by omega) (by omega) hLx ha1 dL_law_2425 2426 rfl ?_
  refine v_muV X hM (h_mo.1) (c_X10_margin l E (x + 334) mo co a1 hO hR hI ga1 q0) kvX10_margin kiX10_margin kl_L_310 (q0 := 0) rfl rfl (As := [.int (zI a1)]) rfl rfl (rm_law rfl (by omega) (by omega)) dL_law_2426 2429 rfl (k' := kq + 1) (n' := nq + 6) rfl rfl (fsI (fun q q1 q2 => (Or.inr (by omega)))) h_mo (fun rv H2 lo2 hM hF hpo => ?_)
  obtain ⟨rfl, hw_0⟩ := hpo
  have h_mo : PR E (x + 334) (modelW E (x + 334) (updC mo 0 (updZ (mo 0) 0 0))) H2 := hw_0
  replace hzl := Nat.le_trans hzl hF.1
  replace h_cm := h_cm.kept hF 1 rfl (fsd (by omega))
  replace h_co := h_co.kept hF 28 rfl (fsd (by omega))
  replace h_bf := h_bf.kept hF 28 rfl (fsd (by omega))
  replace h_sv := h_sv.kept hF 28 rfl (fsd (by omega))
  replace h_hi := h_hi.kept hF 2 rfl (fsd (by omega))
  replace h_hf := h_hf.kept hF (fsd (by omega))
  replace h_dk := h_dk.kept hF 3 rfl (fsd (by omega))
  replace h_se := h_se.kept hF 5 rfl (fsd (by omega))
  replace h_pg := h_pg.kept hF 1 rfl (fsd (by omega))
  replace h_sb := h_sb.kept hF 1 rfl (fsd (by omega))
  replace h_sa := h_sa.kept hF 1 rfl (fsd (by omega))
  replace h_pr := h_pr.kept hF 10 rfl (fsd (by omega))
  replace h_ln := h_ln.kept hF 1 rfl (fsd (by omega))
  replace h_la := h_la.kept hF 1 rfl (fsd (by omega))
  replace h_out := h_out.kept hF 1 rfl (fsd (by omega))
  replace h_outD := h_outD.kept hF 1 rfl (fsd (by omega))
  show V p l e room_1 s m args below meth cd Q 9 H2 lo2 (kq + 1) (nq + 6) 2429 [(6, .int (zI 0)), (5, .int (zI i)), (4, .ref (x + 340)), (3, .ref (x + 339)), (2, .ref (x + 334)), (1, .ref x), (0, .ref b)] [.int (zI (mgC co a1))]
  refine v_istore X dL_law_2429 2431 rfl (by decide) (L' := [(7, .int (zI (mgC co a1))), (6, .int (zI 0)), (5, .int (zI i)), (4, .ref (x + 340)), (3, .ref (x + 339)), (2, .ref (x + 334)), (1, .ref x), (0, .ref b)]) rfl ?_
  refine v_aload_n X dL_law_2431 2432 rfl 5 rfl ?_
  refine v_rdV X hM.C h_mo.1 (c_X10_thrown l E (x + 334) (updC mo 0 (updZ (mo 0) 0 0))) kvX10_thrown kiX10_thrown kl_L_196 rfl rfl (As := []) rfl rfl (rm_law0 rfl (by omega) (by omega)) dL_law_2432 2435 rfl ?_
  show V p l e room_1 s m args below meth cd Q 9 H2 lo2 (kq + 1) (nq + 6) 2435 [(7, .int (zI (mgC co a1))), (6, .int (zI 0)), (5, .int (zI i)), (4, .ref (x + 340)), (3, .ref (x + 339)), (2, .ref (x + 334)), (1, .ref x), (0, .ref b)] [.int (zI 0)]
  refine v_iload X dL_law_2435 2437 rfl 1 rfl ?_
  refine v_icmp_eq X (by omega) (by omega) dL_law_2437 2440 2442 rfl (by decide) (fun c_3 => ?_) (fun c_3 => ?_)
  · skip
    refine v_iload X dL_law_2442 2444 rfl 1 rfl ?_
    refine v_if_ne X (by omega) dL_law_2444 2447 2459 rfl (by decide) (fun c_4 => ?_) (fun c_4 => ?_)
    · skip
      exfalso; omega
    · skip
      refine v_aload_n X dL_law_2447 2448 rfl 4 rfl ?_
      refine v_iconst X dL_law_2448 2449 rfl ?_
      refine v_lald X hM.C h_out.1 0 rfl dL_law_2449 2450 rfl ?_
      show V p l e room_1 s m args below meth cd Q 9 H2 lo2 (kq + 1) (nq + 6) 2450 [(7, .int (zI (mgC co a1))), (6, .int (zI 0)), (5, .int (zI i)), (4, .ref (x + 340)), (3, .ref (x + 339)), (2, .ref (x + 334)), (1, .ref x), (0, .ref b)] [.long (zL (mgC co a1))]
      refine v_iload X dL_law_2450 2452 rfl 0 rfl ?_
      refine v_i2l X dL_law_2452 2453 rfl ?_
      refine v_lcmp0 X dL_law_2453 2454 rfl ?_
      refine v_if_eq X (by omega) dL_law_2454 2457 2459 rfl (by decide) (fun c_5 => ?_) (fun c_5 => ?_)
      · skip
        refine v_goto X dL_law_2459 3555 (by decide) ?_
        refine v_widen (k' := kq + 60) (n' := nq + 4000) (by omega) (by omega) ?_
        exact V_pick [2, 3, 4, 5, 6, 7] rfl (kk _ _ hM ⟨hzl, _, _, _, _, _, _, _, _, _, _, _, _, _, _, _, _, _, _, _, _, _, _, _, _, _, _, _, _, ⟨h_cm, h_co, h_bf, h_sv, h_hi, h_hf, h_dk, h_se, h_pg, h_sb, h_sa, h_pr, h_ln, h_la, h_mo, h_out, h_outD⟩, hP0.mo_0⟩)
      · skip
        exfalso; omega
  · skip
    exfalso; omega
set_option maxHeartbeats 4000000 in
set_option maxRecDepth 20000 in
theorem lo_margin_1 (hl : l.stackTraces = false) (X : CF p m cd code 9 s args RL) (hX : va_X b Lx xs s s.heap) (hbl : b < s.heap.size) (hLx : Lx ≤ 2560) (hM : MS E [] s H lo) (hk : kq + 60 ≤ 603072) (hn : nq + 4000 ≤ 7211113) (hx : s.heap.size ≤ x) (hzl : x + 341 ≤ H.size) {v : Nat} {N : Nat} {f : Int → Int} {nn : Int} {v2 : Nat} {N2 : Nat} {f2 : Int → Int} {n2 : Int} {co : Nat → Int → Int} {bf : Nat → Int → Int} {cv : Nat → Int → Int} {hc : Nat → Nat → Int → Int} {nx : Int} {sz : Int} {hs : Int} {er : Int} {fa : Int} {ss : Int} {dk : Nat → Int → Int} {se : Nat → Int → Int} {po : Int} {si : Int} {pr : Nat → Int → Int} {ml : Int} {ml2 : Int} {mo : Nat → Int → Int} {lg : Nat → Int64} {dg : Nat → UInt64} (hW : LawW E x v N f nn v2 N2 f2 n2 co bf cv hc nx sz hs er fa ss dk se po si pr ml ml2 mo lg dg H) (hP : LawP x v N f nn v2 N2 f2 n2 co cv hc nx sz hs er fa ss po si pr mo) (i0 : 0 ≤ i) (i1 : i + 5 ≤ (Lx : Int)) {a1 : Int} (ha1 : (xs (i + 1).toNat).toInt = a1) (ga1 : Rg a1) (q0 : ¬ (0 ≤ a1 ∧ a1 < co 0 0)) (kk : ∀ (H1 : Heap) (lo1 : List Loc), MS E [] s H1 lo1 → LawI E x H1 → V p l e room_1 s m args below meth cd Q 9 H1 lo1 (kq + 60) (nq + 4000) 3555 [(5, .int (zI i)), (4, .ref (x + 340)), (3, .ref (x + 339)), (2, .ref (x + 334)), (1, .ref x), (0, .ref b)] []) : V p l e room_1 s m args below meth cd Q 9 H lo kq nq 2406 [(5, .int (zI i)), (4, .ref (x + 340)), (3, .ref (x + 339)), (2, .ref (x + 334)), (1, .ref x), (0, .ref b)] [] := by
  obtain ⟨h_cm, h_co, h_bf, h_sv, h_hi, h_hf, h_dk, h_se, h_pg, h_sb, h_sa, h_pr, h_ln, h_la, h_mo, h_out, h_outD⟩ := hW
  have hP0 := hP
  obtain ⟨⟨hD, hDv, hDh⟩, ⟨hRM, hch, hcs⟩, ⟨⟨n0, n1⟩, ⟨s0, s1⟩, hhs⟩, ⟨hm8, hnn, hAg, hNN, hnN, hf9⟩, ⟨T, hSB, hLT, hn38⟩, hPB, ⟨her, hfa, hss, ger, gfa, gss, gms⟩, ⟨gpo, gsi⟩, ⟨hv1, hv2, hvv⟩⟩ := hP
  have hO := hD.inv.ok
  have hI := hD.inv.ts
  have hSt := hD.inv.st
  have hS := hD.inv.sn
  have hR := hRM.1.2
  have hG := gp_inv hD
  have hb0 := hO.b0
  have hbw := hO.bw
  have hbf : ¬ Fr [] s.heap.size b := fun z => z.elim (fun q => q.elim) (fun q => by omega)
  refine v_aload_n X dL_law_2406 2407 rfl 4 rfl ?_
  refine v_aload_n X dL_law_2407 2408 rfl 5 rfl ?_
  refine v_iload X dL_law_2408 2410 rfl 0 rfl ?_
  refine v_iconst X dL_law_2410 2411 rfl ?_
  refine v_iadd X dL_law_2411 2412 rfl ?_
  refine v_scr X hM hX hbl hbf (by omega) (by omega) hLx ha1 dL_law_2412 2413 rfl ?_
  refine v_aload_n X dL_law_2413 2414 rfl 2 rfl ?_
  refine v_mwS X hM (w_X9_margin_0_t l hl E x co hs er fa ss a1 (x + 339) lg hO ga1 q0) kwL_margin ksL_margin kl_L_308 (As := [.ref x, .int (zI a1), .ref (x + 339)]) rfl rfl (rm_lawW rfl (by omega) (by omega)) dL_law_2414 2417 rfl (k' := kq + 1) (n' := nq + 6) rfl rfl (fun q hq => hq.elim) ⟨h_cm, h_co, h_out⟩ (fun rv H1 lo1 hM hF hpo => ?_)
  subst hpo
  replace hzl := Nat.le_trans hzl hF.1
  replace h_cm := h_cm.kept hF 1 rfl (fun q _ _ h => h.elim)
  replace h_co := h_co.kept hF 28 rfl (fun q _ _ h => h.elim)
  replace h_bf := h_bf.kept hF 28 rfl (fun q _ _ h => h.elim)
  replace h_sv := h_sv.kept hF 28 rfl (fun q _ _ h => h.elim)
  replace h_hi := h_hi.kept hF 2 rfl (fun q _ _ h => h.elim)
  replace h_hf := h_hf.kept hF (fun q _ _ h => h.elim)
  replace h_dk := h_dk.kept hF 3 rfl (fun q _ _ h => h.elim)
  replace h_se := h_se.kept hF 5 rfl (fun q _ _ h => h.elim)
  replace h_pg := h_pg.kept hF 1 rfl (fun q _ _ h => h.elim)
  replace h_sb := h_sb.kept hF 1 rfl (fun q _ _ h => h.elim)
  replace h_sa := h_sa.kept hF 1 rfl (fun q _ _ h => h.elim)
  replace h_pr := h_pr.kept hF 10 rfl (fun q _ _ h => h.elim)
  replace h_ln := h_ln.kept hF 1 rfl (fun q _ _ h => h.elim)
  replace h_la := h_la.kept hF 1 rfl (fun q _ _ h => h.elim)
  replace h_mo := h_mo.kept hF 5 rfl (fun q _ _ h => h.elim)
  replace h_out := h_out.kept hF 1 rfl (fun q _ _ h => h.elim)
  replace h_outD := h_outD.kept hF 1 rfl (fun q _ _ h => h.elim)
  show V p l e room_1 s m args below meth cd Q 9 H1 lo1 (kq + 1) (nq + 6) 2417 [(5, .int (zI i)), (4, .ref (x + 340)), (3, .ref (x + 339)), (2, .ref (x + 334)), (1, .ref x), (0, .ref b)] [.int (zI 1)]
  refine v_istore X dL_law_2417 2419 rfl (by decide) (L' := [(6, .int (zI 1)), (5, .int (zI i)), (4, .ref (x + 340)), (3, .ref (x + 339)), (2, .ref (x + 334)), (1, .ref x), (0, .ref b)]) rfl ?_
  refine v_aload_n X dL_law_2419 2420 rfl 4 rfl ?_
  refine v_aload_n X dL_law_2420 2421 rfl 6 rfl ?_
  refine v_iload X dL_law_2421 2423 rfl 1 rfl ?_
  refine v_iconst X dL_law_2423 2424 rfl ?_
  refine v_iadd X dL_law_2424 2425 rfl ?_
  refine v_scr X hM hX hbl hbf (by omega) (by omega) hLx ha1 dL_law_2425 2426 rfl ?_
  refine v_muV X hM (h_mo.1) (c_X10_margin_0 l E (x + 334) mo co a1 hO hR hI ga1 q0) kvX10_margin kiX10_margin kl_L_310 (q0 := 0) rfl rfl (As := [.int (zI a1)]) rfl rfl (rm_law rfl (by omega) (by omega)) dL_law_2426 2429 rfl (k' := kq + 1) (n' := nq + 6) rfl rfl (fsI (fun q q1 q2 => (Or.inr (by omega)))) h_mo (fun rv H2 lo2 hM hF hpo => ?_)
  obtain ⟨rfl, hw_0⟩ := hpo
  have h_mo : PR E (x + 334) (modelW E (x + 334) (updC mo 0 (updZ (mo 0) 0 1))) H2 := hw_0
  replace hzl := Nat.le_trans hzl hF.1
  replace h_cm := h_cm.kept hF 1 rfl (fsd (by omega))
  replace h_co := h_co.kept hF 28 rfl (fsd (by omega))
  replace h_bf := h_bf.kept hF 28 rfl (fsd (by omega))
  replace h_sv := h_sv.kept hF 28 rfl (fsd (by omega))
  replace h_hi := h_hi.kept hF 2 rfl (fsd (by omega))
  replace h_hf := h_hf.kept hF (fsd (by omega))
  replace h_dk := h_dk.kept hF 3 rfl (fsd (by omega))
  replace h_se := h_se.kept hF 5 rfl (fsd (by omega))
  replace h_pg := h_pg.kept hF 1 rfl (fsd (by omega))
  replace h_sb := h_sb.kept hF 1 rfl (fsd (by omega))
  replace h_sa := h_sa.kept hF 1 rfl (fsd (by omega))
  replace h_pr := h_pr.kept hF 10 rfl (fsd (by omega))
  replace h_ln := h_ln.kept hF 1 rfl (fsd (by omega))
  replace h_la := h_la.kept hF 1 rfl (fsd (by omega))
  replace h_out := h_out.kept hF 1 rfl (fsd (by omega))
  replace h_outD := h_outD.kept hF 1 rfl (fsd (by omega))
  show V p l e room_1 s m args below meth cd Q 9 H2 lo2 (kq + 1) (nq + 6) 2429 [(6, .int (zI 1)), (5, .int (zI i)), (4, .ref (x + 340)), (3, .ref (x + 339)), (2, .ref (x + 334)), (1, .ref x), (0, .ref b)] [.int (zI 0)]
  refine v_istore X dL_law_2429 2431 rfl (by decide) (L' := [(7, .int (zI 0)), (6, .int (zI 1)), (5, .int (zI i)), (4, .ref (x + 340)), (3, .ref (x + 339)), (2, .ref (x + 334)), (1, .ref x), (0, .ref b)]) rfl ?_
  refine v_aload_n X dL_law_2431 2432 rfl 5 rfl ?_
  refine v_rdV X hM.C h_mo.1 (c_X10_thrown l E (x + 334) (updC mo 0 (updZ (mo 0) 0 1))) kvX10_thrown kiX10_thrown kl_L_196 rfl rfl (As := []) rfl rfl (rm_law0 rfl (by omega) (by omega)) dL_law_2432 2435 rfl ?_
  show V p l e room_1 s m args below meth cd Q 9 H2 lo2 (kq + 1) (nq + 6) 2435 [(7, .int (zI 0)), (6, .int (zI 1)), (5, .int (zI i)), (4, .ref (x + 340)), (3, .ref (x + 339)), (2, .ref (x + 334)), (1, .ref x), (0, .ref b)] [.int (zI 1)]
  refine v_iload X dL_law_2435 2437 rfl 1 rfl ?_
  refine v_icmp_eq X (by omega) (by omega) dL_law_2437 2440 2442 rfl (by decide) (fun c_3 => ?_) (fun c_3 => ?_)
  · skip
    refine v_iload X dL_law_2442 2444 rfl 1 rfl ?_
    refine v_if_ne X (by omega) dL_law_2444 2447 2459 rfl (by decide) (fun c_4 => ?_) (fun c_4 => ?_)
    · skip
      refine v_goto X dL_law_2459 3555 (by decide) ?_
      refine v_widen (k' := kq + 60) (n' := nq + 4000) (by omega) (by omega) ?_
      exact V_pick [2, 3, 4, 5, 6, 7] rfl (kk _ _ hM ⟨hzl, _, _, _, _, _, _, _, _, _, _, _, _, _, _, _, _, _, _, _, _, _, _, _, _, _, _, _, _, ⟨h_cm, h_co, h_bf, h_sv, h_hi, h_hf, h_dk, h_se, h_pg, h_sb, h_sa, h_pr, h_ln, h_la, h_mo, h_out, h_outD⟩, hP0.mo_0⟩)
    · skip
      exfalso; omega
  · skip
    exfalso; omega
set_option maxHeartbeats 4000000 in
set_option maxRecDepth 20000 in
theorem lo_marginByCredibility (hl : l.stackTraces = false) (X : CF p m cd code 9 s args RL) (hX : va_X b Lx xs s s.heap) (hbl : b < s.heap.size) (hLx : Lx ≤ 2560) (hM : MS E [] s H lo) (hk : kq + 60 ≤ 603072) (hn : nq + 4000 ≤ 7211113) (hx : s.heap.size ≤ x) (hzl : x + 341 ≤ H.size) {v : Nat} {N : Nat} {f : Int → Int} {nn : Int} {v2 : Nat} {N2 : Nat} {f2 : Int → Int} {n2 : Int} {co : Nat → Int → Int} {bf : Nat → Int → Int} {cv : Nat → Int → Int} {hc : Nat → Nat → Int → Int} {nx : Int} {sz : Int} {hs : Int} {er : Int} {fa : Int} {ss : Int} {dk : Nat → Int → Int} {se : Nat → Int → Int} {po : Int} {si : Int} {pr : Nat → Int → Int} {ml : Int} {ml2 : Int} {mo : Nat → Int → Int} {lg : Nat → Int64} {dg : Nat → UInt64} (hW : LawW E x v N f nn v2 N2 f2 n2 co bf cv hc nx sz hs er fa ss dk se po si pr ml ml2 mo lg dg H) (hP : LawP x v N f nn v2 N2 f2 n2 co cv hc nx sz hs er fa ss po si pr mo) (i0 : 0 ≤ i) (i1 : i + 5 ≤ (Lx : Int)) {a1 : Int} (ha1 : (xs (i + 1).toNat).toInt = a1) (ga1 : Rg a1) (q0 : 0 ≤ a1 ∧ a1 < co 0 0) (kk : ∀ (H1 : Heap) (lo1 : List Loc), MS E [] s H1 lo1 → LawI E x H1 → V p l e room_1 s m args below meth cd Q 9 H1 lo1 (kq + 60) (nq + 4000) 3555 [(5, .int (zI i)), (4, .ref (x + 340)), (3, .ref (x + 339)), (2, .ref (x + 334)), (1, .ref x), (0, .ref b)] []) : V p l e room_1 s m args below meth cd Q 9 H lo kq nq 2462 [(5, .int (zI i)), (4, .ref (x + 340)), (3, .ref (x + 339)), (2, .ref (x + 334)), (1, .ref x), (0, .ref b)] [] := by
  obtain ⟨h_cm, h_co, h_bf, h_sv, h_hi, h_hf, h_dk, h_se, h_pg, h_sb, h_sa, h_pr, h_ln, h_la, h_mo, h_out, h_outD⟩ := hW
  have hP0 := hP
  obtain ⟨⟨hD, hDv, hDh⟩, ⟨hRM, hch, hcs⟩, ⟨⟨n0, n1⟩, ⟨s0, s1⟩, hhs⟩, ⟨hm8, hnn, hAg, hNN, hnN, hf9⟩, ⟨T, hSB, hLT, hn38⟩, hPB, ⟨her, hfa, hss, ger, gfa, gss, gms⟩, ⟨gpo, gsi⟩, ⟨hv1, hv2, hvv⟩⟩ := hP
  have hO := hD.inv.ok
  have hI := hD.inv.ts
  have hSt := hD.inv.st
  have hS := hD.inv.sn
  have hR := hRM.1.2
  have hG := gp_inv hD
  have hb0 := hO.b0
  have hbw := hO.bw
  have hbf : ¬ Fr [] s.heap.size b := fun z => z.elim (fun q => q.elim) (fun q => by omega)
  refine v_aload_n X dL_law_2462 2463 rfl 4 rfl ?_
  refine v_aload_n X dL_law_2463 2464 rfl 5 rfl ?_
  refine v_iload X dL_law_2464 2466 rfl 0 rfl ?_
  refine v_iconst X dL_law_2466 2467 rfl ?_
  refine v_iadd X dL_law_2467 2468 rfl ?_
  refine v_scr X hM hX hbl hbf (by omega) (by omega) hLx ha1 dL_law_2468 2469 rfl ?_
  refine v_aload_n X dL_law_2469 2470 rfl 2 rfl ?_
  refine v_mwS X hM (w_X9_marginByCredibility l hl E x co hs er fa ss a1 (x + 339) lg hO ga1 q0 (by omega) (by omega)) kwL_marginByCredibility ksL_marginByCredibility kl_L_311 (As := [.ref x, .int (zI a1), .ref (x + 339)]) rfl rfl (rm_lawW rfl (by omega) (by omega)) dL_law_2470 2473 rfl (k' := kq + 1) (n' := nq + 6) rfl rfl (fsI (fun q q1 q2 => (Or.inr (by omega)))) ⟨h_cm, h_co, h_out⟩ (fun rv H1 lo1 hM hF hpo => ?_)
  obtain ⟨rfl, hw_0⟩ := hpo
  have h_out : PR E (x + 339) [(x + 339, .inl (E 102 4, 1, .inr (.inl (fun _ => zL (mlC co a1)))))] H1 := hw_0
  replace hzl := Nat.le_trans hzl hF.1
  replace h_cm := h_cm.kept hF 1 rfl (fsd (by omega))
  replace h_co := h_co.kept hF 28 rfl (fsd (by omega))
  replace h_bf := h_bf.kept hF 28 rfl (fsd (by omega))
  replace h_sv := h_sv.kept hF 28 rfl (fsd (by omega))
  replace h_hi := h_hi.kept hF 2 rfl (fsd (by omega))
  replace h_hf := h_hf.kept hF (fsd (by omega))
  replace h_dk := h_dk.kept hF 3 rfl (fsd (by omega))
  replace h_se := h_se.kept hF 5 rfl (fsd (by omega))
  replace h_pg := h_pg.kept hF 1 rfl (fsd (by omega))
  replace h_sb := h_sb.kept hF 1 rfl (fsd (by omega))
  replace h_sa := h_sa.kept hF 1 rfl (fsd (by omega))
  replace h_pr := h_pr.kept hF 10 rfl (fsd (by omega))
  replace h_ln := h_ln.kept hF 1 rfl (fsd (by omega))
  replace h_la := h_la.kept hF 1 rfl (fsd (by omega))
  replace h_mo := h_mo.kept hF 5 rfl (fsd (by omega))
  replace h_outD := h_outD.kept hF 1 rfl (fsd (by omega))
  show V p l e room_1 s m args below meth cd Q 9 H1 lo1 (kq + 1) (nq + 6) 2473 [(5, .int (zI i)), (4, .ref (x + 340)), (3, .ref (x + 339)), (2, .ref (x + 334)), (1, .ref x), (0, .ref b)] [.int (zI 0)]
  refine v_istore X dL_law_2473 2475 rfl (by decide) (L' := [(6, .int (zI 0)), (5, .int (zI i)), (4, .ref (x + 340)), (3, .ref (x + 339)), (2, .ref (x + 334)), (1, .ref x), (0, .ref b)]) rfl ?_
  refine v_aload_n X dL_law_2475 2476 rfl 4 rfl ?_
  refine v_aload_n X dL_law_2476 2477 rfl 6 rfl ?_
  refine v_iload X dL_law_2477 2479 rfl 1 rfl ?_
  refine v_iconst X dL_law_2479 2480 rfl ?_
  refine v_iadd X dL_law_2480 2481 rfl ?_
  refine v_scr X hM hX hbl hbf (by omega) (by omega) hLx ha1 dL_law_2481 2482 rfl ?_
  refine v_muV X hM (h_mo.1) (c_X10_marginByCredibility l E (x + 334) mo co a1 hO hR hI ga1 q0) kvX10_marginByCredibility kiX10_marginByCredibility kl_L_313 (q0 := 0) rfl rfl (As := [.int (zI a1)]) rfl rfl (rm_law rfl (by omega) (by omega)) dL_law_2482 2485 rfl (k' := kq + 1) (n' := nq + 6) rfl rfl (fsI (fun q q1 q2 => (Or.inr (by omega)))) h_mo (fun rv H2 lo2 hM hF hpo => ?_)
  obtain ⟨rfl, hw_0⟩ := hpo
  have h_mo : PR E (x + 334) (modelW E (x + 334) (updC mo 0 (updZ (mo 0) 0 0))) H2 := hw_0
  replace hzl := Nat.le_trans hzl hF.1
  replace h_cm := h_cm.kept hF 1 rfl (fsd (by omega))
  replace h_co := h_co.kept hF 28 rfl (fsd (by omega))
  replace h_bf := h_bf.kept hF 28 rfl (fsd (by omega))
  replace h_sv := h_sv.kept hF 28 rfl (fsd (by omega))
  replace h_hi := h_hi.kept hF 2 rfl (fsd (by omega))
  replace h_hf := h_hf.kept hF (fsd (by omega))
  replace h_dk := h_dk.kept hF 3 rfl (fsd (by omega))
  replace h_se := h_se.kept hF 5 rfl (fsd (by omega))
  replace h_pg := h_pg.kept hF 1 rfl (fsd (by omega))
  replace h_sb := h_sb.kept hF 1 rfl (fsd (by omega))
  replace h_sa := h_sa.kept hF 1 rfl (fsd (by omega))
  replace h_pr := h_pr.kept hF 10 rfl (fsd (by omega))
  replace h_ln := h_ln.kept hF 1 rfl (fsd (by omega))
  replace h_la := h_la.kept hF 1 rfl (fsd (by omega))
  replace h_out := h_out.kept hF 1 rfl (fsd (by omega))
  replace h_outD := h_outD.kept hF 1 rfl (fsd (by omega))
  show V p l e room_1 s m args below meth cd Q 9 H2 lo2 (kq + 1) (nq + 6) 2485 [(6, .int (zI 0)), (5, .int (zI i)), (4, .ref (x + 340)), (3, .ref (x + 339)), (2, .ref (x + 334)), (1, .ref x), (0, .ref b)] [.int (zI (mgC co a1))]
  refine v_istore X dL_law_2485 2487 rfl (by decide) (L' := [(7, .int (zI (mgC co a1))), (6, .int (zI 0)), (5, .int (zI i)), (4, .ref (x + 340)), (3, .ref (x + 339)), (2, .ref (x + 334)), (1, .ref x), (0, .ref b)]) rfl ?_
  refine v_aload_n X dL_law_2487 2488 rfl 5 rfl ?_
  refine v_rdV X hM.C h_mo.1 (c_X10_thrown l E (x + 334) (updC mo 0 (updZ (mo 0) 0 0))) kvX10_thrown kiX10_thrown kl_L_196 rfl rfl (As := []) rfl rfl (rm_law0 rfl (by omega) (by omega)) dL_law_2488 2491 rfl ?_
  show V p l e room_1 s m args below meth cd Q 9 H2 lo2 (kq + 1) (nq + 6) 2491 [(7, .int (zI (mgC co a1))), (6, .int (zI 0)), (5, .int (zI i)), (4, .ref (x + 340)), (3, .ref (x + 339)), (2, .ref (x + 334)), (1, .ref x), (0, .ref b)] [.int (zI 0)]
  refine v_iload X dL_law_2491 2493 rfl 1 rfl ?_
  refine v_icmp_eq X (by omega) (by omega) dL_law_2493 2496 2498 rfl (by decide) (fun c_3 => ?_) (fun c_3 => ?_)
  · skip
    refine v_iload X dL_law_2498 2500 rfl 1 rfl ?_
    refine v_if_ne X (by omega) dL_law_2500 2503 2515 rfl (by decide) (fun c_4 => ?_) (fun c_4 => ?_)
    · skip
      exfalso; omega
    · skip
      refine v_aload_n X dL_law_2503 2504 rfl 4 rfl ?_
      refine v_iconst X dL_law_2504 2505 rfl ?_
      refine v_lald X hM.C h_out.1 0 rfl dL_law_2505 2506 rfl ?_
      show V p l e room_1 s m args below meth cd Q 9 H2 lo2 (kq + 1) (nq + 6) 2506 [(7, .int (zI (mgC co a1))), (6, .int (zI 0)), (5, .int (zI i)), (4, .ref (x + 340)), (3, .ref (x + 339)), (2, .ref (x + 334)), (1, .ref x), (0, .ref b)] [.long (zL (mlC co a1))]
      refine v_iload X dL_law_2506 2508 rfl 0 rfl ?_
      refine v_i2l X dL_law_2508 2509 rfl ?_
      refine V_S (st' := [.long (zL (mgC co a1)), .long (zL (mgC co a1))]) (by rw [show (mlC co a1 : Int) = mgC co a1 from (ma_inv hO a1).symm]) ?_
      refine v_lcmp0 X dL_law_2509 2510 rfl ?_
      refine v_if_eq X (by omega) dL_law_2510 2513 2515 rfl (by decide) (fun c_5 => ?_) (fun c_5 => ?_)
      · skip
        refine v_goto X dL_law_2515 3555 (by decide) ?_
        refine v_widen (k' := kq + 60) (n' := nq + 4000) (by omega) (by omega) ?_
        exact V_pick [2, 3, 4, 5, 6, 7] rfl (kk _ _ hM ⟨hzl, _, _, _, _, _, _, _, _, _, _, _, _, _, _, _, _, _, _, _, _, _, _, _, _, _, _, _, _, ⟨h_cm, h_co, h_bf, h_sv, h_hi, h_hf, h_dk, h_se, h_pg, h_sb, h_sa, h_pr, h_ln, h_la, h_mo, h_out, h_outD⟩, hP0.mo_0⟩)
      · skip
        exfalso; omega
  · skip
    exfalso; omega
set_option maxHeartbeats 4000000 in
set_option maxRecDepth 20000 in
theorem lo_marginByCredibility_1 (hl : l.stackTraces = false) (X : CF p m cd code 9 s args RL) (hX : va_X b Lx xs s s.heap) (hbl : b < s.heap.size) (hLx : Lx ≤ 2560) (hM : MS E [] s H lo) (hk : kq + 60 ≤ 603072) (hn : nq + 4000 ≤ 7211113) (hx : s.heap.size ≤ x) (hzl : x + 341 ≤ H.size) {v : Nat} {N : Nat} {f : Int → Int} {nn : Int} {v2 : Nat} {N2 : Nat} {f2 : Int → Int} {n2 : Int} {co : Nat → Int → Int} {bf : Nat → Int → Int} {cv : Nat → Int → Int} {hc : Nat → Nat → Int → Int} {nx : Int} {sz : Int} {hs : Int} {er : Int} {fa : Int} {ss : Int} {dk : Nat → Int → Int} {se : Nat → Int → Int} {po : Int} {si : Int} {pr : Nat → Int → Int} {ml : Int} {ml2 : Int} {mo : Nat → Int → Int} {lg : Nat → Int64} {dg : Nat → UInt64} (hW : LawW E x v N f nn v2 N2 f2 n2 co bf cv hc nx sz hs er fa ss dk se po si pr ml ml2 mo lg dg H) (hP : LawP x v N f nn v2 N2 f2 n2 co cv hc nx sz hs er fa ss po si pr mo) (i0 : 0 ≤ i) (i1 : i + 5 ≤ (Lx : Int)) {a1 : Int} (ha1 : (xs (i + 1).toNat).toInt = a1) (ga1 : Rg a1) (q0 : ¬ (0 ≤ a1 ∧ a1 < co 0 0)) (kk : ∀ (H1 : Heap) (lo1 : List Loc), MS E [] s H1 lo1 → LawI E x H1 → V p l e room_1 s m args below meth cd Q 9 H1 lo1 (kq + 60) (nq + 4000) 3555 [(5, .int (zI i)), (4, .ref (x + 340)), (3, .ref (x + 339)), (2, .ref (x + 334)), (1, .ref x), (0, .ref b)] []) : V p l e room_1 s m args below meth cd Q 9 H lo kq nq 2462 [(5, .int (zI i)), (4, .ref (x + 340)), (3, .ref (x + 339)), (2, .ref (x + 334)), (1, .ref x), (0, .ref b)] [] := by
  obtain ⟨h_cm, h_co, h_bf, h_sv, h_hi, h_hf, h_dk, h_se, h_pg, h_sb, h_sa, h_pr, h_ln, h_la, h_mo, h_out, h_outD⟩ := hW
  have hP0 := hP
  obtain ⟨⟨hD, hDv, hDh⟩, ⟨hRM, hch, hcs⟩, ⟨⟨n0, n1⟩, ⟨s0, s1⟩, hhs⟩, ⟨hm8, hnn, hAg, hNN, hnN, hf9⟩, ⟨T, hSB, hLT, hn38⟩, hPB, ⟨her, hfa, hss, ger, gfa, gss, gms⟩, ⟨gpo, gsi⟩, ⟨hv1, hv2, hvv⟩⟩ := hP
  have hO := hD.inv.ok
  have hI := hD.inv.ts
  have hSt := hD.inv.st
  have hS := hD.inv.sn
  have hR := hRM.1.2
  have hG := gp_inv hD
  have hb0 := hO.b0
  have hbw := hO.bw
  have hbf : ¬ Fr [] s.heap.size b := fun z => z.elim (fun q => q.elim) (fun q => by omega)
  refine v_aload_n X dL_law_2462 2463 rfl 4 rfl ?_
  refine v_aload_n X dL_law_2463 2464 rfl 5 rfl ?_
  refine v_iload X dL_law_2464 2466 rfl 0 rfl ?_
  refine v_iconst X dL_law_2466 2467 rfl ?_
  refine v_iadd X dL_law_2467 2468 rfl ?_
  refine v_scr X hM hX hbl hbf (by omega) (by omega) hLx ha1 dL_law_2468 2469 rfl ?_
  refine v_aload_n X dL_law_2469 2470 rfl 2 rfl ?_
  refine v_mwS X hM (w_X9_marginByCredibility_0_t l hl E x co hs er fa ss a1 (x + 339) lg hO ga1 q0) kwL_marginByCredibility ksL_marginByCredibility kl_L_311 (As := [.ref x, .int (zI a1), .ref (x + 339)]) rfl rfl (rm_lawW rfl (by omega) (by omega)) dL_law_2470 2473 rfl (k' := kq + 1) (n' := nq + 6) rfl rfl (fun q hq => hq.elim) ⟨h_cm, h_co, h_out⟩ (fun rv H1 lo1 hM hF hpo => ?_)
  subst hpo
  replace hzl := Nat.le_trans hzl hF.1
  replace h_cm := h_cm.kept hF 1 rfl (fun q _ _ h => h.elim)
  replace h_co := h_co.kept hF 28 rfl (fun q _ _ h => h.elim)
  replace h_bf := h_bf.kept hF 28 rfl (fun q _ _ h => h.elim)
  replace h_sv := h_sv.kept hF 28 rfl (fun q _ _ h => h.elim)
  replace h_hi := h_hi.kept hF 2 rfl (fun q _ _ h => h.elim)
  replace h_hf := h_hf.kept hF (fun q _ _ h => h.elim)
  replace h_dk := h_dk.kept hF 3 rfl (fun q _ _ h => h.elim)
  replace h_se := h_se.kept hF 5 rfl (fun q _ _ h => h.elim)
  replace h_pg := h_pg.kept hF 1 rfl (fun q _ _ h => h.elim)
  replace h_sb := h_sb.kept hF 1 rfl (fun q _ _ h => h.elim)
  replace h_sa := h_sa.kept hF 1 rfl (fun q _ _ h => h.elim)
  replace h_pr := h_pr.kept hF 10 rfl (fun q _ _ h => h.elim)
  replace h_ln := h_ln.kept hF 1 rfl (fun q _ _ h => h.elim)
  replace h_la := h_la.kept hF 1 rfl (fun q _ _ h => h.elim)
  replace h_mo := h_mo.kept hF 5 rfl (fun q _ _ h => h.elim)
  replace h_out := h_out.kept hF 1 rfl (fun q _ _ h => h.elim)
  replace h_outD := h_outD.kept hF 1 rfl (fun q _ _ h => h.elim)
  show V p l e room_1 s m args below meth cd Q 9 H1 lo1 (kq + 1) (nq + 6) 2473 [(5, .int (zI i)), (4, .ref (x + 340)), (3, .ref (x + 339)), (2, .ref (x + 334)), (1, .ref x), (0, .ref b)] [.int (zI 1)]
  refine v_istore X dL_law_2473 2475 rfl (by decide) (L' := [(6, .int (zI 1)), (5, .int (zI i)), (4, .ref (x + 340)), (3, .ref (x + 339)), (2, .ref (x + 334)), (1, .ref x), (0, .ref b)]) rfl ?_
  refine v_aload_n X dL_law_2475 2476 rfl 4 rfl ?_
  refine v_aload_n X dL_law_2476 2477 rfl 6 rfl ?_
  refine v_iload X dL_law_2477 2479 rfl 1 rfl ?_
  refine v_iconst X dL_law_2479 2480 rfl ?_
  refine v_iadd X dL_law_2480 2481 rfl ?_
  refine v_scr X hM hX hbl hbf (by omega) (by omega) hLx ha1 dL_law_2481 2482 rfl ?_
  refine v_muV X hM (h_mo.1) (c_X10_marginByCredibility_0 l E (x + 334) mo co a1 hO hR hI ga1 q0) kvX10_marginByCredibility kiX10_marginByCredibility kl_L_313 (q0 := 0) rfl rfl (As := [.int (zI a1)]) rfl rfl (rm_law rfl (by omega) (by omega)) dL_law_2482 2485 rfl (k' := kq + 1) (n' := nq + 6) rfl rfl (fsI (fun q q1 q2 => (Or.inr (by omega)))) h_mo (fun rv H2 lo2 hM hF hpo => ?_)
  obtain ⟨rfl, hw_0⟩ := hpo
  have h_mo : PR E (x + 334) (modelW E (x + 334) (updC mo 0 (updZ (mo 0) 0 1))) H2 := hw_0
  replace hzl := Nat.le_trans hzl hF.1
  replace h_cm := h_cm.kept hF 1 rfl (fsd (by omega))
  replace h_co := h_co.kept hF 28 rfl (fsd (by omega))
  replace h_bf := h_bf.kept hF 28 rfl (fsd (by omega))
  replace h_sv := h_sv.kept hF 28 rfl (fsd (by omega))
  replace h_hi := h_hi.kept hF 2 rfl (fsd (by omega))
  replace h_hf := h_hf.kept hF (fsd (by omega))
  replace h_dk := h_dk.kept hF 3 rfl (fsd (by omega))
  replace h_se := h_se.kept hF 5 rfl (fsd (by omega))
  replace h_pg := h_pg.kept hF 1 rfl (fsd (by omega))
  replace h_sb := h_sb.kept hF 1 rfl (fsd (by omega))
  replace h_sa := h_sa.kept hF 1 rfl (fsd (by omega))
  replace h_pr := h_pr.kept hF 10 rfl (fsd (by omega))
  replace h_ln := h_ln.kept hF 1 rfl (fsd (by omega))
  replace h_la := h_la.kept hF 1 rfl (fsd (by omega))
  replace h_out := h_out.kept hF 1 rfl (fsd (by omega))
  replace h_outD := h_outD.kept hF 1 rfl (fsd (by omega))
  show V p l e room_1 s m args below meth cd Q 9 H2 lo2 (kq + 1) (nq + 6) 2485 [(6, .int (zI 1)), (5, .int (zI i)), (4, .ref (x + 340)), (3, .ref (x + 339)), (2, .ref (x + 334)), (1, .ref x), (0, .ref b)] [.int (zI 0)]
  refine v_istore X dL_law_2485 2487 rfl (by decide) (L' := [(7, .int (zI 0)), (6, .int (zI 1)), (5, .int (zI i)), (4, .ref (x + 340)), (3, .ref (x + 339)), (2, .ref (x + 334)), (1, .ref x), (0, .ref b)]) rfl ?_
  refine v_aload_n X dL_law_2487 2488 rfl 5 rfl ?_
  refine v_rdV X hM.C h_mo.1 (c_X10_thrown l E (x + 334) (updC mo 0 (updZ (mo 0) 0 1))) kvX10_thrown kiX10_thrown kl_L_196 rfl rfl (As := []) rfl rfl (rm_law0 rfl (by omega) (by omega)) dL_law_2488 2491 rfl ?_
  show V p l e room_1 s m args below meth cd Q 9 H2 lo2 (kq + 1) (nq + 6) 2491 [(7, .int (zI 0)), (6, .int (zI 1)), (5, .int (zI i)), (4, .ref (x + 340)), (3, .ref (x + 339)), (2, .ref (x + 334)), (1, .ref x), (0, .ref b)] [.int (zI 1)]
  refine v_iload X dL_law_2491 2493 rfl 1 rfl ?_
  refine v_icmp_eq X (by omega) (by omega) dL_law_2493 2496 2498 rfl (by decide) (fun c_3 => ?_) (fun c_3 => ?_)
  · skip
    refine v_iload X dL_law_2498 2500 rfl 1 rfl ?_
    refine v_if_ne X (by omega) dL_law_2500 2503 2515 rfl (by decide) (fun c_4 => ?_) (fun c_4 => ?_)
    · skip
      refine v_goto X dL_law_2515 3555 (by decide) ?_
      refine v_widen (k' := kq + 60) (n' := nq + 4000) (by omega) (by omega) ?_
      exact V_pick [2, 3, 4, 5, 6, 7] rfl (kk _ _ hM ⟨hzl, _, _, _, _, _, _, _, _, _, _, _, _, _, _, _, _, _, _, _, _, _, _, _, _, _, _, _, _, ⟨h_cm, h_co, h_bf, h_sv, h_hi, h_hf, h_dk, h_se, h_pg, h_sb, h_sa, h_pr, h_ln, h_la, h_mo, h_out, h_outD⟩, hP0.mo_0⟩)
    · skip
      exfalso; omega
  · skip
    exfalso; omega
set_option maxHeartbeats 4000000 in
set_option maxRecDepth 20000 in
theorem lo_firmAnswersToGuilty (hl : l.stackTraces = false) (X : CF p m cd code 9 s args RL) (hX : va_X b Lx xs s s.heap) (hbl : b < s.heap.size) (hLx : Lx ≤ 2560) (hM : MS E [] s H lo) (hk : kq + 60 ≤ 603072) (hn : nq + 4000 ≤ 7211113) (hx : s.heap.size ≤ x) (hzl : x + 341 ≤ H.size) {v : Nat} {N : Nat} {f : Int → Int} {nn : Int} {v2 : Nat} {N2 : Nat} {f2 : Int → Int} {n2 : Int} {co : Nat → Int → Int} {bf : Nat → Int → Int} {cv : Nat → Int → Int} {hc : Nat → Nat → Int → Int} {nx : Int} {sz : Int} {hs : Int} {er : Int} {fa : Int} {ss : Int} {dk : Nat → Int → Int} {se : Nat → Int → Int} {po : Int} {si : Int} {pr : Nat → Int → Int} {ml : Int} {ml2 : Int} {mo : Nat → Int → Int} {lg : Nat → Int64} {dg : Nat → UInt64} (hW : LawW E x v N f nn v2 N2 f2 n2 co bf cv hc nx sz hs er fa ss dk se po si pr ml ml2 mo lg dg H) (hP : LawP x v N f nn v2 N2 f2 n2 co cv hc nx sz hs er fa ss po si pr mo) (i0 : 0 ≤ i) (i1 : i + 5 ≤ (Lx : Int)) {a1 : Int} (ha1 : (xs (i + 1).toNat).toInt = a1) (ga1 : Rg a1) {a2 : Int} (ha2 : (xs (i + 2).toNat).toInt = a2) (ga2 : Rg a2) (q0 : 0 ≤ a1 ∧ a1 < co 0 0) (q1 : 0 ≤ a2 ∧ a2 < co 0 1) (q2 : 0 < co 9 (a1 * 8 + a2)) (q3 : 0 ≤ faC co a1 a2) (kk : ∀ (H1 : Heap) (lo1 : List Loc), MS E [] s H1 lo1 → LawI E x H1 → V p l e room_1 s m args below meth cd Q 9 H1 lo1 (kq + 60) (nq + 4000) 3555 [(5, .int (zI i)), (4, .ref (x + 340)), (3, .ref (x + 339)), (2, .ref (x + 334)), (1, .ref x), (0, .ref b)] []) : V p l e room_1 s m args below meth cd Q 9 H lo kq nq 2518 [(5, .int (zI i)), (4, .ref (x + 340)), (3, .ref (x + 339)), (2, .ref (x + 334)), (1, .ref x), (0, .ref b)] [] := by
  obtain ⟨h_cm, h_co, h_bf, h_sv, h_hi, h_hf, h_dk, h_se, h_pg, h_sb, h_sa, h_pr, h_ln, h_la, h_mo, h_out, h_outD⟩ := hW
  have hP0 := hP
  obtain ⟨⟨hD, hDv, hDh⟩, ⟨hRM, hch, hcs⟩, ⟨⟨n0, n1⟩, ⟨s0, s1⟩, hhs⟩, ⟨hm8, hnn, hAg, hNN, hnN, hf9⟩, ⟨T, hSB, hLT, hn38⟩, hPB, ⟨her, hfa, hss, ger, gfa, gss, gms⟩, ⟨gpo, gsi⟩, ⟨hv1, hv2, hvv⟩⟩ := hP
  have hO := hD.inv.ok
  have hI := hD.inv.ts
  have hSt := hD.inv.st
  have hS := hD.inv.sn
  have hR := hRM.1.2
  have hG := gp_inv hD
  have hb0 := hO.b0
  have hbw := hO.bw
  have hbf : ¬ Fr [] s.heap.size b := fun z => z.elim (fun q => q.elim) (fun q => by omega)
  refine v_aload_n X dL_law_2518 2519 rfl 4 rfl ?_
  refine v_aload_n X dL_law_2519 2520 rfl 5 rfl ?_
  refine v_iload X dL_law_2520 2522 rfl 0 rfl ?_
  refine v_iconst X dL_law_2522 2523 rfl ?_
  refine v_iadd X dL_law_2523 2524 rfl ?_
  refine v_scr X hM hX hbl hbf (by omega) (by omega) hLx ha1 dL_law_2524 2525 rfl ?_
  refine v_aload_n X dL_law_2525 2526 rfl 5 rfl ?_
  refine v_iload X dL_law_2526 2528 rfl 0 rfl ?_
  refine v_iconst X dL_law_2528 2529 rfl ?_
  refine v_iadd X dL_law_2529 2530 rfl ?_
  refine v_scr X hM hX hbl hbf (by omega) (by omega) hLx ha2 dL_law_2530 2531 rfl ?_
  refine v_aload_n X dL_law_2531 2532 rfl 2 rfl ?_
  refine v_mwS X hM (w_X9_firmAnswersToGuilty l hl E x co hs er fa ss a1 a2 (x + 339) lg hO ga1 ga2 q0 q1 q2 q3 (by omega) (by omega)) kwL_firmAnswersToGuilty ksL_firmAnswersToGuilty kl_L_314 (As := [.ref x, .int (zI a1), .int (zI a2), .ref (x + 339)]) rfl rfl (rm_lawW rfl (by omega) (by omega)) dL_law_2532 2535 rfl (k' := kq + 1) (n' := nq + 6) rfl rfl (fsI (fun q q1 q2 => (Or.inr (by omega)))) ⟨h_cm, h_co, h_out⟩ (fun rv H1 lo1 hM hF hpo => ?_)
  obtain ⟨rfl, hw_0⟩ := hpo
  have h_out : PR E (x + 339) [(x + 339, .inl (E 102 4, 1, .inr (.inl (fun _ => zL (faC co a1 a2)))))] H1 := hw_0
  replace hzl := Nat.le_trans hzl hF.1
  replace h_cm := h_cm.kept hF 1 rfl (fsd (by omega))
  replace h_co := h_co.kept hF 28 rfl (fsd (by omega))
  replace h_bf := h_bf.kept hF 28 rfl (fsd (by omega))
  replace h_sv := h_sv.kept hF 28 rfl (fsd (by omega))
  replace h_hi := h_hi.kept hF 2 rfl (fsd (by omega))
  replace h_hf := h_hf.kept hF (fsd (by omega))
  replace h_dk := h_dk.kept hF 3 rfl (fsd (by omega))
  replace h_se := h_se.kept hF 5 rfl (fsd (by omega))
  replace h_pg := h_pg.kept hF 1 rfl (fsd (by omega))
  replace h_sb := h_sb.kept hF 1 rfl (fsd (by omega))
  replace h_sa := h_sa.kept hF 1 rfl (fsd (by omega))
  replace h_pr := h_pr.kept hF 10 rfl (fsd (by omega))
  replace h_ln := h_ln.kept hF 1 rfl (fsd (by omega))
  replace h_la := h_la.kept hF 1 rfl (fsd (by omega))
  replace h_mo := h_mo.kept hF 5 rfl (fsd (by omega))
  replace h_outD := h_outD.kept hF 1 rfl (fsd (by omega))
  show V p l e room_1 s m args below meth cd Q 9 H1 lo1 (kq + 1) (nq + 6) 2535 [(5, .int (zI i)), (4, .ref (x + 340)), (3, .ref (x + 339)), (2, .ref (x + 334)), (1, .ref x), (0, .ref b)] [.int (zI 0)]
  refine v_istore X dL_law_2535 2537 rfl (by decide) (L' := [(6, .int (zI 0)), (5, .int (zI i)), (4, .ref (x + 340)), (3, .ref (x + 339)), (2, .ref (x + 334)), (1, .ref x), (0, .ref b)]) rfl ?_
  refine v_aload_n X dL_law_2537 2538 rfl 4 rfl ?_
  refine v_aload_n X dL_law_2538 2539 rfl 6 rfl ?_
  refine v_iload X dL_law_2539 2541 rfl 1 rfl ?_
  refine v_iconst X dL_law_2541 2542 rfl ?_
  refine v_iadd X dL_law_2542 2543 rfl ?_
  refine v_scr X hM hX hbl hbf (by omega) (by omega) hLx ha1 dL_law_2543 2544 rfl ?_
  refine v_aload_n X dL_law_2544 2545 rfl 6 rfl ?_
  refine v_iload X dL_law_2545 2547 rfl 1 rfl ?_
  refine v_iconst X dL_law_2547 2548 rfl ?_
  refine v_iadd X dL_law_2548 2549 rfl ?_
  refine v_scr X hM hX hbl hbf (by omega) (by omega) hLx ha2 dL_law_2549 2550 rfl ?_
  refine v_muV X hM (h_mo.1) (c_X10_firmAnswersToGuilty l E (x + 334) mo co a1 a2 hO hR hI ga1 ga2 q0 q1 q2 q3) kvX10_firmAnswersToGuilty kiX10_firmAnswersToGuilty kl_L_316 (q0 := 0) rfl rfl (As := [.int (zI a1), .int (zI a2)]) rfl rfl (rm_law rfl (by omega) (by omega)) dL_law_2550 2553 rfl (k' := kq + 1) (n' := nq + 6) rfl rfl (fsI (fun q q1 q2 => (Or.inr (by omega)))) h_mo (fun rv H2 lo2 hM hF hpo => ?_)
  obtain ⟨rfl, hw_0⟩ := hpo
  have h_mo : PR E (x + 334) (modelW E (x + 334) (updC mo 0 (updZ (mo 0) 0 0))) H2 := hw_0
  replace hzl := Nat.le_trans hzl hF.1
  replace h_cm := h_cm.kept hF 1 rfl (fsd (by omega))
  replace h_co := h_co.kept hF 28 rfl (fsd (by omega))
  replace h_bf := h_bf.kept hF 28 rfl (fsd (by omega))
  replace h_sv := h_sv.kept hF 28 rfl (fsd (by omega))
  replace h_hi := h_hi.kept hF 2 rfl (fsd (by omega))
  replace h_hf := h_hf.kept hF (fsd (by omega))
  replace h_dk := h_dk.kept hF 3 rfl (fsd (by omega))
  replace h_se := h_se.kept hF 5 rfl (fsd (by omega))
  replace h_pg := h_pg.kept hF 1 rfl (fsd (by omega))
  replace h_sb := h_sb.kept hF 1 rfl (fsd (by omega))
  replace h_sa := h_sa.kept hF 1 rfl (fsd (by omega))
  replace h_pr := h_pr.kept hF 10 rfl (fsd (by omega))
  replace h_ln := h_ln.kept hF 1 rfl (fsd (by omega))
  replace h_la := h_la.kept hF 1 rfl (fsd (by omega))
  replace h_out := h_out.kept hF 1 rfl (fsd (by omega))
  replace h_outD := h_outD.kept hF 1 rfl (fsd (by omega))
  show V p l e room_1 s m args below meth cd Q 9 H2 lo2 (kq + 1) (nq + 6) 2553 [(6, .int (zI 0)), (5, .int (zI i)), (4, .ref (x + 340)), (3, .ref (x + 339)), (2, .ref (x + 334)), (1, .ref x), (0, .ref b)] [.int (zI (faC co a1 a2))]
  refine v_istore X dL_law_2553 2555 rfl (by decide) (L' := [(7, .int (zI (faC co a1 a2))), (6, .int (zI 0)), (5, .int (zI i)), (4, .ref (x + 340)), (3, .ref (x + 339)), (2, .ref (x + 334)), (1, .ref x), (0, .ref b)]) rfl ?_
  refine v_aload_n X dL_law_2555 2556 rfl 5 rfl ?_
  refine v_rdV X hM.C h_mo.1 (c_X10_thrown l E (x + 334) (updC mo 0 (updZ (mo 0) 0 0))) kvX10_thrown kiX10_thrown kl_L_196 rfl rfl (As := []) rfl rfl (rm_law0 rfl (by omega) (by omega)) dL_law_2556 2559 rfl ?_
  show V p l e room_1 s m args below meth cd Q 9 H2 lo2 (kq + 1) (nq + 6) 2559 [(7, .int (zI (faC co a1 a2))), (6, .int (zI 0)), (5, .int (zI i)), (4, .ref (x + 340)), (3, .ref (x + 339)), (2, .ref (x + 334)), (1, .ref x), (0, .ref b)] [.int (zI 0)]
  refine v_iload X dL_law_2559 2561 rfl 1 rfl ?_
  refine v_icmp_eq X (by omega) (by omega) dL_law_2561 2564 2566 rfl (by decide) (fun c_3 => ?_) (fun c_3 => ?_)
  · skip
    refine v_iload X dL_law_2566 2568 rfl 1 rfl ?_
    refine v_if_ne X (by omega) dL_law_2568 2571 2583 rfl (by decide) (fun c_4 => ?_) (fun c_4 => ?_)
    · skip
      exfalso; omega
    · skip
      refine v_aload_n X dL_law_2571 2572 rfl 4 rfl ?_
      refine v_iconst X dL_law_2572 2573 rfl ?_
      refine v_lald X hM.C h_out.1 0 rfl dL_law_2573 2574 rfl ?_
      show V p l e room_1 s m args below meth cd Q 9 H2 lo2 (kq + 1) (nq + 6) 2574 [(7, .int (zI (faC co a1 a2))), (6, .int (zI 0)), (5, .int (zI i)), (4, .ref (x + 340)), (3, .ref (x + 339)), (2, .ref (x + 334)), (1, .ref x), (0, .ref b)] [.long (zL (faC co a1 a2))]
      refine v_iload X dL_law_2574 2576 rfl 0 rfl ?_
      refine v_i2l X dL_law_2576 2577 rfl ?_
      refine v_lcmp0 X dL_law_2577 2578 rfl ?_
      refine v_if_eq X (by omega) dL_law_2578 2581 2583 rfl (by decide) (fun c_5 => ?_) (fun c_5 => ?_)
      · skip
        refine v_goto X dL_law_2583 3555 (by decide) ?_
        refine v_widen (k' := kq + 60) (n' := nq + 4000) (by omega) (by omega) ?_
        exact V_pick [2, 3, 4, 5, 6, 7] rfl (kk _ _ hM ⟨hzl, _, _, _, _, _, _, _, _, _, _, _, _, _, _, _, _, _, _, _, _, _, _, _, _, _, _, _, _, ⟨h_cm, h_co, h_bf, h_sv, h_hi, h_hf, h_dk, h_se, h_pg, h_sb, h_sa, h_pr, h_ln, h_la, h_mo, h_out, h_outD⟩, hP0.mo_0⟩)
      · skip
        exfalso; omega
  · skip
    exfalso; omega
set_option maxHeartbeats 4000000 in
set_option maxRecDepth 20000 in
theorem lo_firmAnswersToGuilty_1 (hl : l.stackTraces = false) (X : CF p m cd code 9 s args RL) (hX : va_X b Lx xs s s.heap) (hbl : b < s.heap.size) (hLx : Lx ≤ 2560) (hM : MS E [] s H lo) (hk : kq + 60 ≤ 603072) (hn : nq + 4000 ≤ 7211113) (hx : s.heap.size ≤ x) (hzl : x + 341 ≤ H.size) {v : Nat} {N : Nat} {f : Int → Int} {nn : Int} {v2 : Nat} {N2 : Nat} {f2 : Int → Int} {n2 : Int} {co : Nat → Int → Int} {bf : Nat → Int → Int} {cv : Nat → Int → Int} {hc : Nat → Nat → Int → Int} {nx : Int} {sz : Int} {hs : Int} {er : Int} {fa : Int} {ss : Int} {dk : Nat → Int → Int} {se : Nat → Int → Int} {po : Int} {si : Int} {pr : Nat → Int → Int} {ml : Int} {ml2 : Int} {mo : Nat → Int → Int} {lg : Nat → Int64} {dg : Nat → UInt64} (hW : LawW E x v N f nn v2 N2 f2 n2 co bf cv hc nx sz hs er fa ss dk se po si pr ml ml2 mo lg dg H) (hP : LawP x v N f nn v2 N2 f2 n2 co cv hc nx sz hs er fa ss po si pr mo) (i0 : 0 ≤ i) (i1 : i + 5 ≤ (Lx : Int)) {a1 : Int} (ha1 : (xs (i + 1).toNat).toInt = a1) (ga1 : Rg a1) {a2 : Int} (ha2 : (xs (i + 2).toNat).toInt = a2) (ga2 : Rg a2) (q0 : ¬ (0 ≤ a1 ∧ a1 < co 0 0)) (kk : ∀ (H1 : Heap) (lo1 : List Loc), MS E [] s H1 lo1 → LawI E x H1 → V p l e room_1 s m args below meth cd Q 9 H1 lo1 (kq + 60) (nq + 4000) 3555 [(5, .int (zI i)), (4, .ref (x + 340)), (3, .ref (x + 339)), (2, .ref (x + 334)), (1, .ref x), (0, .ref b)] []) : V p l e room_1 s m args below meth cd Q 9 H lo kq nq 2518 [(5, .int (zI i)), (4, .ref (x + 340)), (3, .ref (x + 339)), (2, .ref (x + 334)), (1, .ref x), (0, .ref b)] [] := by
  obtain ⟨h_cm, h_co, h_bf, h_sv, h_hi, h_hf, h_dk, h_se, h_pg, h_sb, h_sa, h_pr, h_ln, h_la, h_mo, h_out, h_outD⟩ := hW
  have hP0 := hP
  obtain ⟨⟨hD, hDv, hDh⟩, ⟨hRM, hch, hcs⟩, ⟨⟨n0, n1⟩, ⟨s0, s1⟩, hhs⟩, ⟨hm8, hnn, hAg, hNN, hnN, hf9⟩, ⟨T, hSB, hLT, hn38⟩, hPB, ⟨her, hfa, hss, ger, gfa, gss, gms⟩, ⟨gpo, gsi⟩, ⟨hv1, hv2, hvv⟩⟩ := hP
  have hO := hD.inv.ok
  have hI := hD.inv.ts
  have hSt := hD.inv.st
  have hS := hD.inv.sn
  have hR := hRM.1.2
  have hG := gp_inv hD
  have hb0 := hO.b0
  have hbw := hO.bw
  have hbf : ¬ Fr [] s.heap.size b := fun z => z.elim (fun q => q.elim) (fun q => by omega)
  refine v_aload_n X dL_law_2518 2519 rfl 4 rfl ?_
  refine v_aload_n X dL_law_2519 2520 rfl 5 rfl ?_
  refine v_iload X dL_law_2520 2522 rfl 0 rfl ?_
  refine v_iconst X dL_law_2522 2523 rfl ?_
  refine v_iadd X dL_law_2523 2524 rfl ?_
  refine v_scr X hM hX hbl hbf (by omega) (by omega) hLx ha1 dL_law_2524 2525 rfl ?_
  refine v_aload_n X dL_law_2525 2526 rfl 5 rfl ?_
  refine v_iload X dL_law_2526 2528 rfl 0 rfl ?_
  refine v_iconst X dL_law_2528 2529 rfl ?_
  refine v_iadd X dL_law_2529 2530 rfl ?_
  refine v_scr X hM hX hbl hbf (by omega) (by omega) hLx ha2 dL_law_2530 2531 rfl ?_
  refine v_aload_n X dL_law_2531 2532 rfl 2 rfl ?_
  refine v_mwS X hM (w_X9_firmAnswersToGuilty_0_t l hl E x co hs er fa ss a1 a2 (x + 339) lg hO ga1 ga2 q0) kwL_firmAnswersToGuilty ksL_firmAnswersToGuilty kl_L_314 (As := [.ref x, .int (zI a1), .int (zI a2), .ref (x + 339)]) rfl rfl (rm_lawW rfl (by omega) (by omega)) dL_law_2532 2535 rfl (k' := kq + 1) (n' := nq + 6) rfl rfl (fun q hq => hq.elim) ⟨h_cm, h_co, h_out⟩ (fun rv H1 lo1 hM hF hpo => ?_)
  subst hpo
  replace hzl := Nat.le_trans hzl hF.1
  replace h_cm := h_cm.kept hF 1 rfl (fun q _ _ h => h.elim)
  replace h_co := h_co.kept hF 28 rfl (fun q _ _ h => h.elim)
  replace h_bf := h_bf.kept hF 28 rfl (fun q _ _ h => h.elim)
  replace h_sv := h_sv.kept hF 28 rfl (fun q _ _ h => h.elim)
  replace h_hi := h_hi.kept hF 2 rfl (fun q _ _ h => h.elim)
  replace h_hf := h_hf.kept hF (fun q _ _ h => h.elim)
  replace h_dk := h_dk.kept hF 3 rfl (fun q _ _ h => h.elim)
  replace h_se := h_se.kept hF 5 rfl (fun q _ _ h => h.elim)
  replace h_pg := h_pg.kept hF 1 rfl (fun q _ _ h => h.elim)
  replace h_sb := h_sb.kept hF 1 rfl (fun q _ _ h => h.elim)
  replace h_sa := h_sa.kept hF 1 rfl (fun q _ _ h => h.elim)
  replace h_pr := h_pr.kept hF 10 rfl (fun q _ _ h => h.elim)
  replace h_ln := h_ln.kept hF 1 rfl (fun q _ _ h => h.elim)
  replace h_la := h_la.kept hF 1 rfl (fun q _ _ h => h.elim)
  replace h_mo := h_mo.kept hF 5 rfl (fun q _ _ h => h.elim)
  replace h_out := h_out.kept hF 1 rfl (fun q _ _ h => h.elim)
  replace h_outD := h_outD.kept hF 1 rfl (fun q _ _ h => h.elim)
  show V p l e room_1 s m args below meth cd Q 9 H1 lo1 (kq + 1) (nq + 6) 2535 [(5, .int (zI i)), (4, .ref (x + 340)), (3, .ref (x + 339)), (2, .ref (x + 334)), (1, .ref x), (0, .ref b)] [.int (zI 1)]
  refine v_istore X dL_law_2535 2537 rfl (by decide) (L' := [(6, .int (zI 1)), (5, .int (zI i)), (4, .ref (x + 340)), (3, .ref (x + 339)), (2, .ref (x + 334)), (1, .ref x), (0, .ref b)]) rfl ?_
  refine v_aload_n X dL_law_2537 2538 rfl 4 rfl ?_
  refine v_aload_n X dL_law_2538 2539 rfl 6 rfl ?_
  refine v_iload X dL_law_2539 2541 rfl 1 rfl ?_
  refine v_iconst X dL_law_2541 2542 rfl ?_
  refine v_iadd X dL_law_2542 2543 rfl ?_
  refine v_scr X hM hX hbl hbf (by omega) (by omega) hLx ha1 dL_law_2543 2544 rfl ?_
  refine v_aload_n X dL_law_2544 2545 rfl 6 rfl ?_
  refine v_iload X dL_law_2545 2547 rfl 1 rfl ?_
  refine v_iconst X dL_law_2547 2548 rfl ?_
  refine v_iadd X dL_law_2548 2549 rfl ?_
  refine v_scr X hM hX hbl hbf (by omega) (by omega) hLx ha2 dL_law_2549 2550 rfl ?_
  refine v_muV X hM (h_mo.1) (c_X10_firmAnswersToGuilty_0 l E (x + 334) mo co a1 a2 hO hR hI ga1 ga2 q0) kvX10_firmAnswersToGuilty kiX10_firmAnswersToGuilty kl_L_316 (q0 := 0) rfl rfl (As := [.int (zI a1), .int (zI a2)]) rfl rfl (rm_law rfl (by omega) (by omega)) dL_law_2550 2553 rfl (k' := kq + 1) (n' := nq + 6) rfl rfl (fsI (fun q q1 q2 => (Or.inr (by omega)))) h_mo (fun rv H2 lo2 hM hF hpo => ?_)
  obtain ⟨rfl, hw_0⟩ := hpo
  have h_mo : PR E (x + 334) (modelW E (x + 334) (updC mo 0 (updZ (mo 0) 0 1))) H2 := hw_0
  replace hzl := Nat.le_trans hzl hF.1
  replace h_cm := h_cm.kept hF 1 rfl (fsd (by omega))
  replace h_co := h_co.kept hF 28 rfl (fsd (by omega))
  replace h_bf := h_bf.kept hF 28 rfl (fsd (by omega))
  replace h_sv := h_sv.kept hF 28 rfl (fsd (by omega))
  replace h_hi := h_hi.kept hF 2 rfl (fsd (by omega))
  replace h_hf := h_hf.kept hF (fsd (by omega))
  replace h_dk := h_dk.kept hF 3 rfl (fsd (by omega))
  replace h_se := h_se.kept hF 5 rfl (fsd (by omega))
  replace h_pg := h_pg.kept hF 1 rfl (fsd (by omega))
  replace h_sb := h_sb.kept hF 1 rfl (fsd (by omega))
  replace h_sa := h_sa.kept hF 1 rfl (fsd (by omega))
  replace h_pr := h_pr.kept hF 10 rfl (fsd (by omega))
  replace h_ln := h_ln.kept hF 1 rfl (fsd (by omega))
  replace h_la := h_la.kept hF 1 rfl (fsd (by omega))
  replace h_out := h_out.kept hF 1 rfl (fsd (by omega))
  replace h_outD := h_outD.kept hF 1 rfl (fsd (by omega))
  show V p l e room_1 s m args below meth cd Q 9 H2 lo2 (kq + 1) (nq + 6) 2553 [(6, .int (zI 1)), (5, .int (zI i)), (4, .ref (x + 340)), (3, .ref (x + 339)), (2, .ref (x + 334)), (1, .ref x), (0, .ref b)] [.int (zI 0)]
  refine v_istore X dL_law_2553 2555 rfl (by decide) (L' := [(7, .int (zI 0)), (6, .int (zI 1)), (5, .int (zI i)), (4, .ref (x + 340)), (3, .ref (x + 339)), (2, .ref (x + 334)), (1, .ref x), (0, .ref b)]) rfl ?_
  refine v_aload_n X dL_law_2555 2556 rfl 5 rfl ?_
  refine v_rdV X hM.C h_mo.1 (c_X10_thrown l E (x + 334) (updC mo 0 (updZ (mo 0) 0 1))) kvX10_thrown kiX10_thrown kl_L_196 rfl rfl (As := []) rfl rfl (rm_law0 rfl (by omega) (by omega)) dL_law_2556 2559 rfl ?_
  show V p l e room_1 s m args below meth cd Q 9 H2 lo2 (kq + 1) (nq + 6) 2559 [(7, .int (zI 0)), (6, .int (zI 1)), (5, .int (zI i)), (4, .ref (x + 340)), (3, .ref (x + 339)), (2, .ref (x + 334)), (1, .ref x), (0, .ref b)] [.int (zI 1)]
  refine v_iload X dL_law_2559 2561 rfl 1 rfl ?_
  refine v_icmp_eq X (by omega) (by omega) dL_law_2561 2564 2566 rfl (by decide) (fun c_3 => ?_) (fun c_3 => ?_)
  · skip
    refine v_iload X dL_law_2566 2568 rfl 1 rfl ?_
    refine v_if_ne X (by omega) dL_law_2568 2571 2583 rfl (by decide) (fun c_4 => ?_) (fun c_4 => ?_)
    · skip
      refine v_goto X dL_law_2583 3555 (by decide) ?_
      refine v_widen (k' := kq + 60) (n' := nq + 4000) (by omega) (by omega) ?_
      exact V_pick [2, 3, 4, 5, 6, 7] rfl (kk _ _ hM ⟨hzl, _, _, _, _, _, _, _, _, _, _, _, _, _, _, _, _, _, _, _, _, _, _, _, _, _, _, _, _, ⟨h_cm, h_co, h_bf, h_sv, h_hi, h_hf, h_dk, h_se, h_pg, h_sb, h_sa, h_pr, h_ln, h_la, h_mo, h_out, h_outD⟩, hP0.mo_0⟩)
    · skip
      exfalso; omega
  · skip
    exfalso; omega
set_option maxHeartbeats 4000000 in
set_option maxRecDepth 20000 in
theorem lo_firmAnswersToGuilty_2 (hl : l.stackTraces = false) (X : CF p m cd code 9 s args RL) (hX : va_X b Lx xs s s.heap) (hbl : b < s.heap.size) (hLx : Lx ≤ 2560) (hM : MS E [] s H lo) (hk : kq + 60 ≤ 603072) (hn : nq + 4000 ≤ 7211113) (hx : s.heap.size ≤ x) (hzl : x + 341 ≤ H.size) {v : Nat} {N : Nat} {f : Int → Int} {nn : Int} {v2 : Nat} {N2 : Nat} {f2 : Int → Int} {n2 : Int} {co : Nat → Int → Int} {bf : Nat → Int → Int} {cv : Nat → Int → Int} {hc : Nat → Nat → Int → Int} {nx : Int} {sz : Int} {hs : Int} {er : Int} {fa : Int} {ss : Int} {dk : Nat → Int → Int} {se : Nat → Int → Int} {po : Int} {si : Int} {pr : Nat → Int → Int} {ml : Int} {ml2 : Int} {mo : Nat → Int → Int} {lg : Nat → Int64} {dg : Nat → UInt64} (hW : LawW E x v N f nn v2 N2 f2 n2 co bf cv hc nx sz hs er fa ss dk se po si pr ml ml2 mo lg dg H) (hP : LawP x v N f nn v2 N2 f2 n2 co cv hc nx sz hs er fa ss po si pr mo) (i0 : 0 ≤ i) (i1 : i + 5 ≤ (Lx : Int)) {a1 : Int} (ha1 : (xs (i + 1).toNat).toInt = a1) (ga1 : Rg a1) {a2 : Int} (ha2 : (xs (i + 2).toNat).toInt = a2) (ga2 : Rg a2) (q0 : 0 ≤ a1 ∧ a1 < co 0 0) (q1 : ¬ (0 ≤ a2 ∧ a2 < co 0 1)) (kk : ∀ (H1 : Heap) (lo1 : List Loc), MS E [] s H1 lo1 → LawI E x H1 → V p l e room_1 s m args below meth cd Q 9 H1 lo1 (kq + 60) (nq + 4000) 3555 [(5, .int (zI i)), (4, .ref (x + 340)), (3, .ref (x + 339)), (2, .ref (x + 334)), (1, .ref x), (0, .ref b)] []) : V p l e room_1 s m args below meth cd Q 9 H lo kq nq 2518 [(5, .int (zI i)), (4, .ref (x + 340)), (3, .ref (x + 339)), (2, .ref (x + 334)), (1, .ref x), (0, .ref b)] [] := by
  obtain ⟨h_cm, h_co, h_bf, h_sv, h_hi, h_hf, h_dk, h_se, h_pg, h_sb, h_sa, h_pr, h_ln, h_la, h_mo, h_out, h_outD⟩ := hW
  have hP0 := hP
  obtain ⟨⟨hD, hDv, hDh⟩, ⟨hRM, hch, hcs⟩, ⟨⟨n0, n1⟩, ⟨s0, s1⟩, hhs⟩, ⟨hm8, hnn, hAg, hNN, hnN, hf9⟩, ⟨T, hSB, hLT, hn38⟩, hPB, ⟨her, hfa, hss, ger, gfa, gss, gms⟩, ⟨gpo, gsi⟩, ⟨hv1, hv2, hvv⟩⟩ := hP
  have hO := hD.inv.ok
  have hI := hD.inv.ts
  have hSt := hD.inv.st
  have hS := hD.inv.sn
  have hR := hRM.1.2
  have hG := gp_inv hD
  have hb0 := hO.b0
  have hbw := hO.bw
  have hbf : ¬ Fr [] s.heap.size b := fun z => z.elim (fun q => q.elim) (fun q => by omega)
  refine v_aload_n X dL_law_2518 2519 rfl 4 rfl ?_
  refine v_aload_n X dL_law_2519 2520 rfl 5 rfl ?_
  refine v_iload X dL_law_2520 2522 rfl 0 rfl ?_
  refine v_iconst X dL_law_2522 2523 rfl ?_
  refine v_iadd X dL_law_2523 2524 rfl ?_
  refine v_scr X hM hX hbl hbf (by omega) (by omega) hLx ha1 dL_law_2524 2525 rfl ?_
  refine v_aload_n X dL_law_2525 2526 rfl 5 rfl ?_
  refine v_iload X dL_law_2526 2528 rfl 0 rfl ?_
  refine v_iconst X dL_law_2528 2529 rfl ?_
  refine v_iadd X dL_law_2529 2530 rfl ?_
  refine v_scr X hM hX hbl hbf (by omega) (by omega) hLx ha2 dL_law_2530 2531 rfl ?_
  refine v_aload_n X dL_law_2531 2532 rfl 2 rfl ?_
  refine v_mwS X hM (w_X9_firmAnswersToGuilty_1_t l hl E x co hs er fa ss a1 a2 (x + 339) lg hO ga1 ga2 q0 q1) kwL_firmAnswersToGuilty ksL_firmAnswersToGuilty kl_L_314 (As := [.ref x, .int (zI a1), .int (zI a2), .ref (x + 339)]) rfl rfl (rm_lawW rfl (by omega) (by omega)) dL_law_2532 2535 rfl (k' := kq + 1) (n' := nq + 6) rfl rfl (fun q hq => hq.elim) ⟨h_cm, h_co, h_out⟩ (fun rv H1 lo1 hM hF hpo => ?_)
  subst hpo
  replace hzl := Nat.le_trans hzl hF.1
  replace h_cm := h_cm.kept hF 1 rfl (fun q _ _ h => h.elim)
  replace h_co := h_co.kept hF 28 rfl (fun q _ _ h => h.elim)
  replace h_bf := h_bf.kept hF 28 rfl (fun q _ _ h => h.elim)
  replace h_sv := h_sv.kept hF 28 rfl (fun q _ _ h => h.elim)
  replace h_hi := h_hi.kept hF 2 rfl (fun q _ _ h => h.elim)
  replace h_hf := h_hf.kept hF (fun q _ _ h => h.elim)
  replace h_dk := h_dk.kept hF 3 rfl (fun q _ _ h => h.elim)
  replace h_se := h_se.kept hF 5 rfl (fun q _ _ h => h.elim)
  replace h_pg := h_pg.kept hF 1 rfl (fun q _ _ h => h.elim)
  replace h_sb := h_sb.kept hF 1 rfl (fun q _ _ h => h.elim)
  replace h_sa := h_sa.kept hF 1 rfl (fun q _ _ h => h.elim)
  replace h_pr := h_pr.kept hF 10 rfl (fun q _ _ h => h.elim)
  replace h_ln := h_ln.kept hF 1 rfl (fun q _ _ h => h.elim)
  replace h_la := h_la.kept hF 1 rfl (fun q _ _ h => h.elim)
  replace h_mo := h_mo.kept hF 5 rfl (fun q _ _ h => h.elim)
  replace h_out := h_out.kept hF 1 rfl (fun q _ _ h => h.elim)
  replace h_outD := h_outD.kept hF 1 rfl (fun q _ _ h => h.elim)
  show V p l e room_1 s m args below meth cd Q 9 H1 lo1 (kq + 1) (nq + 6) 2535 [(5, .int (zI i)), (4, .ref (x + 340)), (3, .ref (x + 339)), (2, .ref (x + 334)), (1, .ref x), (0, .ref b)] [.int (zI 1)]
  refine v_istore X dL_law_2535 2537 rfl (by decide) (L' := [(6, .int (zI 1)), (5, .int (zI i)), (4, .ref (x + 340)), (3, .ref (x + 339)), (2, .ref (x + 334)), (1, .ref x), (0, .ref b)]) rfl ?_
  refine v_aload_n X dL_law_2537 2538 rfl 4 rfl ?_
  refine v_aload_n X dL_law_2538 2539 rfl 6 rfl ?_
  refine v_iload X dL_law_2539 2541 rfl 1 rfl ?_
  refine v_iconst X dL_law_2541 2542 rfl ?_
  refine v_iadd X dL_law_2542 2543 rfl ?_
  refine v_scr X hM hX hbl hbf (by omega) (by omega) hLx ha1 dL_law_2543 2544 rfl ?_
  refine v_aload_n X dL_law_2544 2545 rfl 6 rfl ?_
  refine v_iload X dL_law_2545 2547 rfl 1 rfl ?_
  refine v_iconst X dL_law_2547 2548 rfl ?_
  refine v_iadd X dL_law_2548 2549 rfl ?_
  refine v_scr X hM hX hbl hbf (by omega) (by omega) hLx ha2 dL_law_2549 2550 rfl ?_
  refine v_muV X hM (h_mo.1) (c_X10_firmAnswersToGuilty_1 l E (x + 334) mo co a1 a2 hO hR hI ga1 ga2 q0 q1) kvX10_firmAnswersToGuilty kiX10_firmAnswersToGuilty kl_L_316 (q0 := 0) rfl rfl (As := [.int (zI a1), .int (zI a2)]) rfl rfl (rm_law rfl (by omega) (by omega)) dL_law_2550 2553 rfl (k' := kq + 1) (n' := nq + 6) rfl rfl (fsI (fun q q1 q2 => (Or.inr (by omega)))) h_mo (fun rv H2 lo2 hM hF hpo => ?_)
  obtain ⟨rfl, hw_0⟩ := hpo
  have h_mo : PR E (x + 334) (modelW E (x + 334) (updC mo 0 (updZ (mo 0) 0 1))) H2 := hw_0
  replace hzl := Nat.le_trans hzl hF.1
  replace h_cm := h_cm.kept hF 1 rfl (fsd (by omega))
  replace h_co := h_co.kept hF 28 rfl (fsd (by omega))
  replace h_bf := h_bf.kept hF 28 rfl (fsd (by omega))
  replace h_sv := h_sv.kept hF 28 rfl (fsd (by omega))
  replace h_hi := h_hi.kept hF 2 rfl (fsd (by omega))
  replace h_hf := h_hf.kept hF (fsd (by omega))
  replace h_dk := h_dk.kept hF 3 rfl (fsd (by omega))
  replace h_se := h_se.kept hF 5 rfl (fsd (by omega))
  replace h_pg := h_pg.kept hF 1 rfl (fsd (by omega))
  replace h_sb := h_sb.kept hF 1 rfl (fsd (by omega))
  replace h_sa := h_sa.kept hF 1 rfl (fsd (by omega))
  replace h_pr := h_pr.kept hF 10 rfl (fsd (by omega))
  replace h_ln := h_ln.kept hF 1 rfl (fsd (by omega))
  replace h_la := h_la.kept hF 1 rfl (fsd (by omega))
  replace h_out := h_out.kept hF 1 rfl (fsd (by omega))
  replace h_outD := h_outD.kept hF 1 rfl (fsd (by omega))
  show V p l e room_1 s m args below meth cd Q 9 H2 lo2 (kq + 1) (nq + 6) 2553 [(6, .int (zI 1)), (5, .int (zI i)), (4, .ref (x + 340)), (3, .ref (x + 339)), (2, .ref (x + 334)), (1, .ref x), (0, .ref b)] [.int (zI 0)]
  refine v_istore X dL_law_2553 2555 rfl (by decide) (L' := [(7, .int (zI 0)), (6, .int (zI 1)), (5, .int (zI i)), (4, .ref (x + 340)), (3, .ref (x + 339)), (2, .ref (x + 334)), (1, .ref x), (0, .ref b)]) rfl ?_
  refine v_aload_n X dL_law_2555 2556 rfl 5 rfl ?_
  refine v_rdV X hM.C h_mo.1 (c_X10_thrown l E (x + 334) (updC mo 0 (updZ (mo 0) 0 1))) kvX10_thrown kiX10_thrown kl_L_196 rfl rfl (As := []) rfl rfl (rm_law0 rfl (by omega) (by omega)) dL_law_2556 2559 rfl ?_
  show V p l e room_1 s m args below meth cd Q 9 H2 lo2 (kq + 1) (nq + 6) 2559 [(7, .int (zI 0)), (6, .int (zI 1)), (5, .int (zI i)), (4, .ref (x + 340)), (3, .ref (x + 339)), (2, .ref (x + 334)), (1, .ref x), (0, .ref b)] [.int (zI 1)]
  refine v_iload X dL_law_2559 2561 rfl 1 rfl ?_
  refine v_icmp_eq X (by omega) (by omega) dL_law_2561 2564 2566 rfl (by decide) (fun c_3 => ?_) (fun c_3 => ?_)
  · skip
    refine v_iload X dL_law_2566 2568 rfl 1 rfl ?_
    refine v_if_ne X (by omega) dL_law_2568 2571 2583 rfl (by decide) (fun c_4 => ?_) (fun c_4 => ?_)
    · skip
      refine v_goto X dL_law_2583 3555 (by decide) ?_
      refine v_widen (k' := kq + 60) (n' := nq + 4000) (by omega) (by omega) ?_
      exact V_pick [2, 3, 4, 5, 6, 7] rfl (kk _ _ hM ⟨hzl, _, _, _, _, _, _, _, _, _, _, _, _, _, _, _, _, _, _, _, _, _, _, _, _, _, _, _, _, ⟨h_cm, h_co, h_bf, h_sv, h_hi, h_hf, h_dk, h_se, h_pg, h_sb, h_sa, h_pr, h_ln, h_la, h_mo, h_out, h_outD⟩, hP0.mo_0⟩)
    · skip
      exfalso; omega
  · skip
    exfalso; omega
set_option maxHeartbeats 4000000 in
set_option maxRecDepth 20000 in
theorem lo_firmAnswersToGuilty_3 (hl : l.stackTraces = false) (X : CF p m cd code 9 s args RL) (hX : va_X b Lx xs s s.heap) (hbl : b < s.heap.size) (hLx : Lx ≤ 2560) (hM : MS E [] s H lo) (hk : kq + 60 ≤ 603072) (hn : nq + 4000 ≤ 7211113) (hx : s.heap.size ≤ x) (hzl : x + 341 ≤ H.size) {v : Nat} {N : Nat} {f : Int → Int} {nn : Int} {v2 : Nat} {N2 : Nat} {f2 : Int → Int} {n2 : Int} {co : Nat → Int → Int} {bf : Nat → Int → Int} {cv : Nat → Int → Int} {hc : Nat → Nat → Int → Int} {nx : Int} {sz : Int} {hs : Int} {er : Int} {fa : Int} {ss : Int} {dk : Nat → Int → Int} {se : Nat → Int → Int} {po : Int} {si : Int} {pr : Nat → Int → Int} {ml : Int} {ml2 : Int} {mo : Nat → Int → Int} {lg : Nat → Int64} {dg : Nat → UInt64} (hW : LawW E x v N f nn v2 N2 f2 n2 co bf cv hc nx sz hs er fa ss dk se po si pr ml ml2 mo lg dg H) (hP : LawP x v N f nn v2 N2 f2 n2 co cv hc nx sz hs er fa ss po si pr mo) (i0 : 0 ≤ i) (i1 : i + 5 ≤ (Lx : Int)) {a1 : Int} (ha1 : (xs (i + 1).toNat).toInt = a1) (ga1 : Rg a1) {a2 : Int} (ha2 : (xs (i + 2).toNat).toInt = a2) (ga2 : Rg a2) (q0 : 0 ≤ a1 ∧ a1 < co 0 0) (q1 : 0 ≤ a2 ∧ a2 < co 0 1) (q2 : ¬ (0 < co 9 (a1 * 8 + a2))) (kk : ∀ (H1 : Heap) (lo1 : List Loc), MS E [] s H1 lo1 → LawI E x H1 → V p l e room_1 s m args below meth cd Q 9 H1 lo1 (kq + 60) (nq + 4000) 3555 [(5, .int (zI i)), (4, .ref (x + 340)), (3, .ref (x + 339)), (2, .ref (x + 334)), (1, .ref x), (0, .ref b)] []) : V p l e room_1 s m args below meth cd Q 9 H lo kq nq 2518 [(5, .int (zI i)), (4, .ref (x + 340)), (3, .ref (x + 339)), (2, .ref (x + 334)), (1, .ref x), (0, .ref b)] [] := by
  obtain ⟨h_cm, h_co, h_bf, h_sv, h_hi, h_hf, h_dk, h_se, h_pg, h_sb, h_sa, h_pr, h_ln, h_la, h_mo, h_out, h_outD⟩ := hW
  have hP0 := hP
  obtain ⟨⟨hD, hDv, hDh⟩, ⟨hRM, hch, hcs⟩, ⟨⟨n0, n1⟩, ⟨s0, s1⟩, hhs⟩, ⟨hm8, hnn, hAg, hNN, hnN, hf9⟩, ⟨T, hSB, hLT, hn38⟩, hPB, ⟨her, hfa, hss, ger, gfa, gss, gms⟩, ⟨gpo, gsi⟩, ⟨hv1, hv2, hvv⟩⟩ := hP
  have hO := hD.inv.ok
  have hI := hD.inv.ts
  have hSt := hD.inv.st
  have hS := hD.inv.sn
  have hR := hRM.1.2
  have hG := gp_inv hD
  have hb0 := hO.b0
  have hbw := hO.bw
  have hbf : ¬ Fr [] s.heap.size b := fun z => z.elim (fun q => q.elim) (fun q => by omega)
  refine v_aload_n X dL_law_2518 2519 rfl 4 rfl ?_
  refine v_aload_n X dL_law_2519 2520 rfl 5 rfl ?_
  refine v_iload X dL_law_2520 2522 rfl 0 rfl ?_
  refine v_iconst X dL_law_2522 2523 rfl ?_
  refine v_iadd X dL_law_2523 2524 rfl ?_
  refine v_scr X hM hX hbl hbf (by omega) (by omega) hLx ha1 dL_law_2524 2525 rfl ?_
  refine v_aload_n X dL_law_2525 2526 rfl 5 rfl ?_
  refine v_iload X dL_law_2526 2528 rfl 0 rfl ?_
  refine v_iconst X dL_law_2528 2529 rfl ?_
  refine v_iadd X dL_law_2529 2530 rfl ?_
  refine v_scr X hM hX hbl hbf (by omega) (by omega) hLx ha2 dL_law_2530 2531 rfl ?_
  refine v_aload_n X dL_law_2531 2532 rfl 2 rfl ?_
  refine v_mwS X hM (w_X9_firmAnswersToGuilty_2_t l hl E x co hs er fa ss a1 a2 (x + 339) lg hO ga1 ga2 q0 q1 q2) kwL_firmAnswersToGuilty ksL_firmAnswersToGuilty kl_L_314 (As := [.ref x, .int (zI a1), .int (zI a2), .ref (x + 339)]) rfl rfl (rm_lawW rfl (by omega) (by omega)) dL_law_2532 2535 rfl (k' := kq + 1) (n' := nq + 6) rfl rfl (fun q hq => hq.elim) ⟨h_cm, h_co, h_out⟩ (fun rv H1 lo1 hM hF hpo => ?_)
  subst hpo
  replace hzl := Nat.le_trans hzl hF.1
  replace h_cm := h_cm.kept hF 1 rfl (fun q _ _ h => h.elim)
  replace h_co := h_co.kept hF 28 rfl (fun q _ _ h => h.elim)
  replace h_bf := h_bf.kept hF 28 rfl (fun q _ _ h => h.elim)
  replace h_sv := h_sv.kept hF 28 rfl (fun q _ _ h => h.elim)
  replace h_hi := h_hi.kept hF 2 rfl (fun q _ _ h => h.elim)
  replace h_hf := h_hf.kept hF (fun q _ _ h => h.elim)
  replace h_dk := h_dk.kept hF 3 rfl (fun q _ _ h => h.elim)
  replace h_se := h_se.kept hF 5 rfl (fun q _ _ h => h.elim)
  replace h_pg := h_pg.kept hF 1 rfl (fun q _ _ h => h.elim)
  replace h_sb := h_sb.kept hF 1 rfl (fun q _ _ h => h.elim)
  replace h_sa := h_sa.kept hF 1 rfl (fun q _ _ h => h.elim)
  replace h_pr := h_pr.kept hF 10 rfl (fun q _ _ h => h.elim)
  replace h_ln := h_ln.kept hF 1 rfl (fun q _ _ h => h.elim)
  replace h_la := h_la.kept hF 1 rfl (fun q _ _ h => h.elim)
  replace h_mo := h_mo.kept hF 5 rfl (fun q _ _ h => h.elim)
  replace h_out := h_out.kept hF 1 rfl (fun q _ _ h => h.elim)
  replace h_outD := h_outD.kept hF 1 rfl (fun q _ _ h => h.elim)
  show V p l e room_1 s m args below meth cd Q 9 H1 lo1 (kq + 1) (nq + 6) 2535 [(5, .int (zI i)), (4, .ref (x + 340)), (3, .ref (x + 339)), (2, .ref (x + 334)), (1, .ref x), (0, .ref b)] [.int (zI 2)]
  refine v_istore X dL_law_2535 2537 rfl (by decide) (L' := [(6, .int (zI 2)), (5, .int (zI i)), (4, .ref (x + 340)), (3, .ref (x + 339)), (2, .ref (x + 334)), (1, .ref x), (0, .ref b)]) rfl ?_
  refine v_aload_n X dL_law_2537 2538 rfl 4 rfl ?_
  refine v_aload_n X dL_law_2538 2539 rfl 6 rfl ?_
  refine v_iload X dL_law_2539 2541 rfl 1 rfl ?_
  refine v_iconst X dL_law_2541 2542 rfl ?_
  refine v_iadd X dL_law_2542 2543 rfl ?_
  refine v_scr X hM hX hbl hbf (by omega) (by omega) hLx ha1 dL_law_2543 2544 rfl ?_
  refine v_aload_n X dL_law_2544 2545 rfl 6 rfl ?_
  refine v_iload X dL_law_2545 2547 rfl 1 rfl ?_
  refine v_iconst X dL_law_2547 2548 rfl ?_
  refine v_iadd X dL_law_2548 2549 rfl ?_
  refine v_scr X hM hX hbl hbf (by omega) (by omega) hLx ha2 dL_law_2549 2550 rfl ?_
  refine v_muV X hM (h_mo.1) (c_X10_firmAnswersToGuilty_2 l E (x + 334) mo co a1 a2 hO hR hI ga1 ga2 q0 q1 q2) kvX10_firmAnswersToGuilty kiX10_firmAnswersToGuilty kl_L_316 (q0 := 0) rfl rfl (As := [.int (zI a1), .int (zI a2)]) rfl rfl (rm_law rfl (by omega) (by omega)) dL_law_2550 2553 rfl (k' := kq + 1) (n' := nq + 6) rfl rfl (fsI (fun q q1 q2 => (Or.inr (by omega)))) h_mo (fun rv H2 lo2 hM hF hpo => ?_)
  obtain ⟨rfl, hw_0⟩ := hpo
  have h_mo : PR E (x + 334) (modelW E (x + 334) (updC mo 0 (updZ (mo 0) 0 2))) H2 := hw_0
  replace hzl := Nat.le_trans hzl hF.1
  replace h_cm := h_cm.kept hF 1 rfl (fsd (by omega))
  replace h_co := h_co.kept hF 28 rfl (fsd (by omega))
  replace h_bf := h_bf.kept hF 28 rfl (fsd (by omega))
  replace h_sv := h_sv.kept hF 28 rfl (fsd (by omega))
  replace h_hi := h_hi.kept hF 2 rfl (fsd (by omega))
  replace h_hf := h_hf.kept hF (fsd (by omega))
  replace h_dk := h_dk.kept hF 3 rfl (fsd (by omega))
  replace h_se := h_se.kept hF 5 rfl (fsd (by omega))
  replace h_pg := h_pg.kept hF 1 rfl (fsd (by omega))
  replace h_sb := h_sb.kept hF 1 rfl (fsd (by omega))
  replace h_sa := h_sa.kept hF 1 rfl (fsd (by omega))
  replace h_pr := h_pr.kept hF 10 rfl (fsd (by omega))
  replace h_ln := h_ln.kept hF 1 rfl (fsd (by omega))
  replace h_la := h_la.kept hF 1 rfl (fsd (by omega))
  replace h_out := h_out.kept hF 1 rfl (fsd (by omega))
  replace h_outD := h_outD.kept hF 1 rfl (fsd (by omega))
  show V p l e room_1 s m args below meth cd Q 9 H2 lo2 (kq + 1) (nq + 6) 2553 [(6, .int (zI 2)), (5, .int (zI i)), (4, .ref (x + 340)), (3, .ref (x + 339)), (2, .ref (x + 334)), (1, .ref x), (0, .ref b)] [.int (zI 0)]
  refine v_istore X dL_law_2553 2555 rfl (by decide) (L' := [(7, .int (zI 0)), (6, .int (zI 2)), (5, .int (zI i)), (4, .ref (x + 340)), (3, .ref (x + 339)), (2, .ref (x + 334)), (1, .ref x), (0, .ref b)]) rfl ?_
  refine v_aload_n X dL_law_2555 2556 rfl 5 rfl ?_
  refine v_rdV X hM.C h_mo.1 (c_X10_thrown l E (x + 334) (updC mo 0 (updZ (mo 0) 0 2))) kvX10_thrown kiX10_thrown kl_L_196 rfl rfl (As := []) rfl rfl (rm_law0 rfl (by omega) (by omega)) dL_law_2556 2559 rfl ?_
  show V p l e room_1 s m args below meth cd Q 9 H2 lo2 (kq + 1) (nq + 6) 2559 [(7, .int (zI 0)), (6, .int (zI 2)), (5, .int (zI i)), (4, .ref (x + 340)), (3, .ref (x + 339)), (2, .ref (x + 334)), (1, .ref x), (0, .ref b)] [.int (zI 2)]
  refine v_iload X dL_law_2559 2561 rfl 1 rfl ?_
  refine v_icmp_eq X (by omega) (by omega) dL_law_2561 2564 2566 rfl (by decide) (fun c_3 => ?_) (fun c_3 => ?_)
  · skip
    refine v_iload X dL_law_2566 2568 rfl 1 rfl ?_
    refine v_if_ne X (by omega) dL_law_2568 2571 2583 rfl (by decide) (fun c_4 => ?_) (fun c_4 => ?_)
    · skip
      refine v_goto X dL_law_2583 3555 (by decide) ?_
      refine v_widen (k' := kq + 60) (n' := nq + 4000) (by omega) (by omega) ?_
      exact V_pick [2, 3, 4, 5, 6, 7] rfl (kk _ _ hM ⟨hzl, _, _, _, _, _, _, _, _, _, _, _, _, _, _, _, _, _, _, _, _, _, _, _, _, _, _, _, _, ⟨h_cm, h_co, h_bf, h_sv, h_hi, h_hf, h_dk, h_se, h_pg, h_sb, h_sa, h_pr, h_ln, h_la, h_mo, h_out, h_outD⟩, hP0.mo_0⟩)
    · skip
      exfalso; omega
  · skip
    exfalso; omega
set_option maxHeartbeats 4000000 in
set_option maxRecDepth 20000 in
theorem lo_firmAnswersToGuilty_4 (hl : l.stackTraces = false) (X : CF p m cd code 9 s args RL) (hX : va_X b Lx xs s s.heap) (hbl : b < s.heap.size) (hLx : Lx ≤ 2560) (hM : MS E [] s H lo) (hk : kq + 60 ≤ 603072) (hn : nq + 4000 ≤ 7211113) (hx : s.heap.size ≤ x) (hzl : x + 341 ≤ H.size) {v : Nat} {N : Nat} {f : Int → Int} {nn : Int} {v2 : Nat} {N2 : Nat} {f2 : Int → Int} {n2 : Int} {co : Nat → Int → Int} {bf : Nat → Int → Int} {cv : Nat → Int → Int} {hc : Nat → Nat → Int → Int} {nx : Int} {sz : Int} {hs : Int} {er : Int} {fa : Int} {ss : Int} {dk : Nat → Int → Int} {se : Nat → Int → Int} {po : Int} {si : Int} {pr : Nat → Int → Int} {ml : Int} {ml2 : Int} {mo : Nat → Int → Int} {lg : Nat → Int64} {dg : Nat → UInt64} (hW : LawW E x v N f nn v2 N2 f2 n2 co bf cv hc nx sz hs er fa ss dk se po si pr ml ml2 mo lg dg H) (hP : LawP x v N f nn v2 N2 f2 n2 co cv hc nx sz hs er fa ss po si pr mo) (i0 : 0 ≤ i) (i1 : i + 5 ≤ (Lx : Int)) {a1 : Int} (ha1 : (xs (i + 1).toNat).toInt = a1) (ga1 : Rg a1) {a2 : Int} (ha2 : (xs (i + 2).toNat).toInt = a2) (ga2 : Rg a2) (q0 : 0 ≤ a1 ∧ a1 < co 0 0) (q1 : 0 ≤ a2 ∧ a2 < co 0 1) (q2 : 0 < co 9 (a1 * 8 + a2)) (q3 : ¬ (0 ≤ faC co a1 a2)) (kk : ∀ (H1 : Heap) (lo1 : List Loc), MS E [] s H1 lo1 → LawI E x H1 → V p l e room_1 s m args below meth cd Q 9 H1 lo1 (kq + 60) (nq + 4000) 3555 [(5, .int (zI i)), (4, .ref (x + 340)), (3, .ref (x + 339)), (2, .ref (x + 334)), (1, .ref x), (0, .ref b)] []) : V p l e room_1 s m args below meth cd Q 9 H lo kq nq 2518 [(5, .int (zI i)), (4, .ref (x + 340)), (3, .ref (x + 339)), (2, .ref (x + 334)), (1, .ref x), (0, .ref b)] [] := by
  obtain ⟨h_cm, h_co, h_bf, h_sv, h_hi, h_hf, h_dk, h_se, h_pg, h_sb, h_sa, h_pr, h_ln, h_la, h_mo, h_out, h_outD⟩ := hW
  have hP0 := hP
  obtain ⟨⟨hD, hDv, hDh⟩, ⟨hRM, hch, hcs⟩, ⟨⟨n0, n1⟩, ⟨s0, s1⟩, hhs⟩, ⟨hm8, hnn, hAg, hNN, hnN, hf9⟩, ⟨T, hSB, hLT, hn38⟩, hPB, ⟨her, hfa, hss, ger, gfa, gss, gms⟩, ⟨gpo, gsi⟩, ⟨hv1, hv2, hvv⟩⟩ := hP
  have hO := hD.inv.ok
  have hI := hD.inv.ts
  have hSt := hD.inv.st
  have hS := hD.inv.sn
  have hR := hRM.1.2
  have hG := gp_inv hD
  have hb0 := hO.b0
  have hbw := hO.bw
  have hbf : ¬ Fr [] s.heap.size b := fun z => z.elim (fun q => q.elim) (fun q => by omega)
  refine v_aload_n X dL_law_2518 2519 rfl 4 rfl ?_
  refine v_aload_n X dL_law_2519 2520 rfl 5 rfl ?_
  refine v_iload X dL_law_2520 2522 rfl 0 rfl ?_
  refine v_iconst X dL_law_2522 2523 rfl ?_
  refine v_iadd X dL_law_2523 2524 rfl ?_
  refine v_scr X hM hX hbl hbf (by omega) (by omega) hLx ha1 dL_law_2524 2525 rfl ?_
  refine v_aload_n X dL_law_2525 2526 rfl 5 rfl ?_
  refine v_iload X dL_law_2526 2528 rfl 0 rfl ?_
  refine v_iconst X dL_law_2528 2529 rfl ?_
  refine v_iadd X dL_law_2529 2530 rfl ?_
  refine v_scr X hM hX hbl hbf (by omega) (by omega) hLx ha2 dL_law_2530 2531 rfl ?_
  refine v_aload_n X dL_law_2531 2532 rfl 2 rfl ?_
  refine v_mwS X hM (w_X9_firmAnswersToGuilty_3_t l hl E x co hs er fa ss a1 a2 (x + 339) lg hO ga1 ga2 q0 q1 q2 q3) kwL_firmAnswersToGuilty ksL_firmAnswersToGuilty kl_L_314 (As := [.ref x, .int (zI a1), .int (zI a2), .ref (x + 339)]) rfl rfl (rm_lawW rfl (by omega) (by omega)) dL_law_2532 2535 rfl (k' := kq + 1) (n' := nq + 6) rfl rfl (fun q hq => hq.elim) ⟨h_cm, h_co, h_out⟩ (fun rv H1 lo1 hM hF hpo => ?_)
  subst hpo
  replace hzl := Nat.le_trans hzl hF.1
  replace h_cm := h_cm.kept hF 1 rfl (fun q _ _ h => h.elim)
  replace h_co := h_co.kept hF 28 rfl (fun q _ _ h => h.elim)
  replace h_bf := h_bf.kept hF 28 rfl (fun q _ _ h => h.elim)
  replace h_sv := h_sv.kept hF 28 rfl (fun q _ _ h => h.elim)
  replace h_hi := h_hi.kept hF 2 rfl (fun q _ _ h => h.elim)
  replace h_hf := h_hf.kept hF (fun q _ _ h => h.elim)
  replace h_dk := h_dk.kept hF 3 rfl (fun q _ _ h => h.elim)
  replace h_se := h_se.kept hF 5 rfl (fun q _ _ h => h.elim)
  replace h_pg := h_pg.kept hF 1 rfl (fun q _ _ h => h.elim)
  replace h_sb := h_sb.kept hF 1 rfl (fun q _ _ h => h.elim)
  replace h_sa := h_sa.kept hF 1 rfl (fun q _ _ h => h.elim)
  replace h_pr := h_pr.kept hF 10 rfl (fun q _ _ h => h.elim)
  replace h_ln := h_ln.kept hF 1 rfl (fun q _ _ h => h.elim)
  replace h_la := h_la.kept hF 1 rfl (fun q _ _ h => h.elim)
  replace h_mo := h_mo.kept hF 5 rfl (fun q _ _ h => h.elim)
  replace h_out := h_out.kept hF 1 rfl (fun q _ _ h => h.elim)
  replace h_outD := h_outD.kept hF 1 rfl (fun q _ _ h => h.elim)
  show V p l e room_1 s m args below meth cd Q 9 H1 lo1 (kq + 1) (nq + 6) 2535 [(5, .int (zI i)), (4, .ref (x + 340)), (3, .ref (x + 339)), (2, .ref (x + 334)), (1, .ref x), (0, .ref b)] [.int (zI 2)]
  refine v_istore X dL_law_2535 2537 rfl (by decide) (L' := [(6, .int (zI 2)), (5, .int (zI i)), (4, .ref (x + 340)), (3, .ref (x + 339)), (2, .ref (x + 334)), (1, .ref x), (0, .ref b)]) rfl ?_
  refine v_aload_n X dL_law_2537 2538 rfl 4 rfl ?_
  refine v_aload_n X dL_law_2538 2539 rfl 6 rfl ?_
  refine v_iload X dL_law_2539 2541 rfl 1 rfl ?_
  refine v_iconst X dL_law_2541 2542 rfl ?_
  refine v_iadd X dL_law_2542 2543 rfl ?_
  refine v_scr X hM hX hbl hbf (by omega) (by omega) hLx ha1 dL_law_2543 2544 rfl ?_
  refine v_aload_n X dL_law_2544 2545 rfl 6 rfl ?_
  refine v_iload X dL_law_2545 2547 rfl 1 rfl ?_
  refine v_iconst X dL_law_2547 2548 rfl ?_
  refine v_iadd X dL_law_2548 2549 rfl ?_
  refine v_scr X hM hX hbl hbf (by omega) (by omega) hLx ha2 dL_law_2549 2550 rfl ?_
  refine v_muV X hM (h_mo.1) (c_X10_firmAnswersToGuilty_3 l E (x + 334) mo co a1 a2 hO hR hI ga1 ga2 q0 q1 q2 q3) kvX10_firmAnswersToGuilty kiX10_firmAnswersToGuilty kl_L_316 (q0 := 0) rfl rfl (As := [.int (zI a1), .int (zI a2)]) rfl rfl (rm_law rfl (by omega) (by omega)) dL_law_2550 2553 rfl (k' := kq + 1) (n' := nq + 6) rfl rfl (fsI (fun q q1 q2 => (Or.inr (by omega)))) h_mo (fun rv H2 lo2 hM hF hpo => ?_)
  obtain ⟨rfl, hw_0⟩ := hpo
  have h_mo : PR E (x + 334) (modelW E (x + 334) (updC mo 0 (updZ (mo 0) 0 2))) H2 := hw_0
  replace hzl := Nat.le_trans hzl hF.1
  replace h_cm := h_cm.kept hF 1 rfl (fsd (by omega))
  replace h_co := h_co.kept hF 28 rfl (fsd (by omega))
  replace h_bf := h_bf.kept hF 28 rfl (fsd (by omega))
  replace h_sv := h_sv.kept hF 28 rfl (fsd (by omega))
  replace h_hi := h_hi.kept hF 2 rfl (fsd (by omega))
  replace h_hf := h_hf.kept hF (fsd (by omega))
  replace h_dk := h_dk.kept hF 3 rfl (fsd (by omega))
  replace h_se := h_se.kept hF 5 rfl (fsd (by omega))
  replace h_pg := h_pg.kept hF 1 rfl (fsd (by omega))
  replace h_sb := h_sb.kept hF 1 rfl (fsd (by omega))
  replace h_sa := h_sa.kept hF 1 rfl (fsd (by omega))
  replace h_pr := h_pr.kept hF 10 rfl (fsd (by omega))
  replace h_ln := h_ln.kept hF 1 rfl (fsd (by omega))
  replace h_la := h_la.kept hF 1 rfl (fsd (by omega))
  replace h_out := h_out.kept hF 1 rfl (fsd (by omega))
  replace h_outD := h_outD.kept hF 1 rfl (fsd (by omega))
  show V p l e room_1 s m args below meth cd Q 9 H2 lo2 (kq + 1) (nq + 6) 2553 [(6, .int (zI 2)), (5, .int (zI i)), (4, .ref (x + 340)), (3, .ref (x + 339)), (2, .ref (x + 334)), (1, .ref x), (0, .ref b)] [.int (zI 0)]
  refine v_istore X dL_law_2553 2555 rfl (by decide) (L' := [(7, .int (zI 0)), (6, .int (zI 2)), (5, .int (zI i)), (4, .ref (x + 340)), (3, .ref (x + 339)), (2, .ref (x + 334)), (1, .ref x), (0, .ref b)]) rfl ?_
  refine v_aload_n X dL_law_2555 2556 rfl 5 rfl ?_
  refine v_rdV X hM.C h_mo.1 (c_X10_thrown l E (x + 334) (updC mo 0 (updZ (mo 0) 0 2))) kvX10_thrown kiX10_thrown kl_L_196 rfl rfl (As := []) rfl rfl (rm_law0 rfl (by omega) (by omega)) dL_law_2556 2559 rfl ?_
  show V p l e room_1 s m args below meth cd Q 9 H2 lo2 (kq + 1) (nq + 6) 2559 [(7, .int (zI 0)), (6, .int (zI 2)), (5, .int (zI i)), (4, .ref (x + 340)), (3, .ref (x + 339)), (2, .ref (x + 334)), (1, .ref x), (0, .ref b)] [.int (zI 2)]
  refine v_iload X dL_law_2559 2561 rfl 1 rfl ?_
  refine v_icmp_eq X (by omega) (by omega) dL_law_2561 2564 2566 rfl (by decide) (fun c_3 => ?_) (fun c_3 => ?_)
  · skip
    refine v_iload X dL_law_2566 2568 rfl 1 rfl ?_
    refine v_if_ne X (by omega) dL_law_2568 2571 2583 rfl (by decide) (fun c_4 => ?_) (fun c_4 => ?_)
    · skip
      refine v_goto X dL_law_2583 3555 (by decide) ?_
      refine v_widen (k' := kq + 60) (n' := nq + 4000) (by omega) (by omega) ?_
      exact V_pick [2, 3, 4, 5, 6, 7] rfl (kk _ _ hM ⟨hzl, _, _, _, _, _, _, _, _, _, _, _, _, _, _, _, _, _, _, _, _, _, _, _, _, _, _, _, _, ⟨h_cm, h_co, h_bf, h_sv, h_hi, h_hf, h_dk, h_se, h_pg, h_sb, h_sa, h_pr, h_ln, h_la, h_mo, h_out, h_outD⟩, hP0.mo_0⟩)
    · skip
      exfalso; omega
  · skip
    exfalso; omega
set_option maxHeartbeats 4000000 in
set_option maxRecDepth 20000 in
theorem lo_sentence (hl : l.stackTraces = false) (X : CF p m cd code 9 s args RL) (hX : va_X b Lx xs s s.heap) (hbl : b < s.heap.size) (hLx : Lx ≤ 2560) (hM : MS E [] s H lo) (hk : kq + 60 ≤ 603072) (hn : nq + 4000 ≤ 7211113) (hx : s.heap.size ≤ x) (hzl : x + 341 ≤ H.size) {v : Nat} {N : Nat} {f : Int → Int} {nn : Int} {v2 : Nat} {N2 : Nat} {f2 : Int → Int} {n2 : Int} {co : Nat → Int → Int} {bf : Nat → Int → Int} {cv : Nat → Int → Int} {hc : Nat → Nat → Int → Int} {nx : Int} {sz : Int} {hs : Int} {er : Int} {fa : Int} {ss : Int} {dk : Nat → Int → Int} {se : Nat → Int → Int} {po : Int} {si : Int} {pr : Nat → Int → Int} {ml : Int} {ml2 : Int} {mo : Nat → Int → Int} {lg : Nat → Int64} {dg : Nat → UInt64} (hW : LawW E x v N f nn v2 N2 f2 n2 co bf cv hc nx sz hs er fa ss dk se po si pr ml ml2 mo lg dg H) (hP : LawP x v N f nn v2 N2 f2 n2 co cv hc nx sz hs er fa ss po si pr mo) (i0 : 0 ≤ i) (i1 : i + 5 ≤ (Lx : Int)) {a1 : Int} (ha1 : (xs (i + 1).toNat).toInt = a1) (ga1 : Rg a1) (q0 : 0 ≤ a1 ∧ a1 < 6) (kk : ∀ (H1 : Heap) (lo1 : List Loc), MS E [] s H1 lo1 → LawI E x H1 → V p l e room_1 s m args below meth cd Q 9 H1 lo1 (kq + 60) (nq + 4000) 3555 [(5, .int (zI i)), (4, .ref (x + 340)), (3, .ref (x + 339)), (2, .ref (x + 334)), (1, .ref x), (0, .ref b)] []) : V p l e room_1 s m args below meth cd Q 9 H lo kq nq 2586 [(5, .int (zI i)), (4, .ref (x + 340)), (3, .ref (x + 339)), (2, .ref (x + 334)), (1, .ref x), (0, .ref b)] [] := by
  obtain ⟨h_cm, h_co, h_bf, h_sv, h_hi, h_hf, h_dk, h_se, h_pg, h_sb, h_sa, h_pr, h_ln, h_la, h_mo, h_out, h_outD⟩ := hW
  have hP0 := hP
  obtain ⟨⟨hD, hDv, hDh⟩, ⟨hRM, hch, hcs⟩, ⟨⟨n0, n1⟩, ⟨s0, s1⟩, hhs⟩, ⟨hm8, hnn, hAg, hNN, hnN, hf9⟩, ⟨T, hSB, hLT, hn38⟩, hPB, ⟨her, hfa, hss, ger, gfa, gss, gms⟩, ⟨gpo, gsi⟩, ⟨hv1, hv2, hvv⟩⟩ := hP
  have hO := hD.inv.ok
  have hI := hD.inv.ts
  have hSt := hD.inv.st
  have hS := hD.inv.sn
  have hR := hRM.1.2
  have hG := gp_inv hD
  have hb0 := hO.b0
  have hbw := hO.bw
  have hbf : ¬ Fr [] s.heap.size b := fun z => z.elim (fun q => q.elim) (fun q => by omega)
  refine v_aload_n X dL_law_2586 2587 rfl 4 rfl ?_
  refine v_aload_n X dL_law_2587 2588 rfl 5 rfl ?_
  refine v_iload X dL_law_2588 2590 rfl 0 rfl ?_
  refine v_iconst X dL_law_2590 2591 rfl ?_
  refine v_iadd X dL_law_2591 2592 rfl ?_
  refine v_scr X hM hX hbl hbf (by omega) (by omega) hLx ha1 dL_law_2592 2593 rfl ?_
  refine v_aload_n X dL_law_2593 2594 rfl 2 rfl ?_
  refine v_mwS X hM (w_X9_sentence l hl E x co hs er fa ss a1 (x + 339) lg hO ga1 q0 (by omega) (by omega)) kwL_sentence ksL_sentence kl_L_317 (As := [.ref x, .int (zI a1), .ref (x + 339)]) rfl rfl (rm_lawW rfl (by omega) (by omega)) dL_law_2594 2597 rfl (k' := kq + 1) (n' := nq + 6) rfl rfl (fsI (fun q q1 q2 => (Or.inr (by omega)))) ⟨h_cm, h_co, h_out⟩ (fun rv H1 lo1 hM hF hpo => ?_)
  obtain ⟨rfl, hw_0⟩ := hpo
  have h_out : PR E (x + 339) [(x + 339, .inl (E 102 4, 1, .inr (.inl (fun _ => zL (co 12 a1)))))] H1 := hw_0
  replace hzl := Nat.le_trans hzl hF.1
  replace h_cm := h_cm.kept hF 1 rfl (fsd (by omega))
  replace h_co := h_co.kept hF 28 rfl (fsd (by omega))
  replace h_bf := h_bf.kept hF 28 rfl (fsd (by omega))
  replace h_sv := h_sv.kept hF 28 rfl (fsd (by omega))
  replace h_hi := h_hi.kept hF 2 rfl (fsd (by omega))
  replace h_hf := h_hf.kept hF (fsd (by omega))
  replace h_dk := h_dk.kept hF 3 rfl (fsd (by omega))
  replace h_se := h_se.kept hF 5 rfl (fsd (by omega))
  replace h_pg := h_pg.kept hF 1 rfl (fsd (by omega))
  replace h_sb := h_sb.kept hF 1 rfl (fsd (by omega))
  replace h_sa := h_sa.kept hF 1 rfl (fsd (by omega))
  replace h_pr := h_pr.kept hF 10 rfl (fsd (by omega))
  replace h_ln := h_ln.kept hF 1 rfl (fsd (by omega))
  replace h_la := h_la.kept hF 1 rfl (fsd (by omega))
  replace h_mo := h_mo.kept hF 5 rfl (fsd (by omega))
  replace h_outD := h_outD.kept hF 1 rfl (fsd (by omega))
  show V p l e room_1 s m args below meth cd Q 9 H1 lo1 (kq + 1) (nq + 6) 2597 [(5, .int (zI i)), (4, .ref (x + 340)), (3, .ref (x + 339)), (2, .ref (x + 334)), (1, .ref x), (0, .ref b)] [.int (zI 0)]
  refine v_istore X dL_law_2597 2599 rfl (by decide) (L' := [(6, .int (zI 0)), (5, .int (zI i)), (4, .ref (x + 340)), (3, .ref (x + 339)), (2, .ref (x + 334)), (1, .ref x), (0, .ref b)]) rfl ?_
  refine v_aload_n X dL_law_2599 2600 rfl 4 rfl ?_
  refine v_aload_n X dL_law_2600 2601 rfl 6 rfl ?_
  refine v_iload X dL_law_2601 2603 rfl 1 rfl ?_
  refine v_iconst X dL_law_2603 2604 rfl ?_
  refine v_iadd X dL_law_2604 2605 rfl ?_
  refine v_scr X hM hX hbl hbf (by omega) (by omega) hLx ha1 dL_law_2605 2606 rfl ?_
  refine v_muV X hM (h_mo.1) (c_X10_sentence l E (x + 334) mo co a1 hO hR hS ga1 q0) kvX10_sentence kiX10_sentence kl_L_319 (q0 := 0) rfl rfl (As := [.int (zI a1)]) rfl rfl (rm_law rfl (by omega) (by omega)) dL_law_2606 2609 rfl (k' := kq + 1) (n' := nq + 6) rfl rfl (fsI (fun q q1 q2 => (Or.inr (by omega)))) h_mo (fun rv H2 lo2 hM hF hpo => ?_)
  obtain ⟨rfl, hw_0⟩ := hpo
  have h_mo : PR E (x + 334) (modelW E (x + 334) (updC mo 0 (updZ (mo 0) 0 0))) H2 := hw_0
  replace hzl := Nat.le_trans hzl hF.1
  replace h_cm := h_cm.kept hF 1 rfl (fsd (by omega))
  replace h_co := h_co.kept hF 28 rfl (fsd (by omega))
  replace h_bf := h_bf.kept hF 28 rfl (fsd (by omega))
  replace h_sv := h_sv.kept hF 28 rfl (fsd (by omega))
  replace h_hi := h_hi.kept hF 2 rfl (fsd (by omega))
  replace h_hf := h_hf.kept hF (fsd (by omega))
  replace h_dk := h_dk.kept hF 3 rfl (fsd (by omega))
  replace h_se := h_se.kept hF 5 rfl (fsd (by omega))
  replace h_pg := h_pg.kept hF 1 rfl (fsd (by omega))
  replace h_sb := h_sb.kept hF 1 rfl (fsd (by omega))
  replace h_sa := h_sa.kept hF 1 rfl (fsd (by omega))
  replace h_pr := h_pr.kept hF 10 rfl (fsd (by omega))
  replace h_ln := h_ln.kept hF 1 rfl (fsd (by omega))
  replace h_la := h_la.kept hF 1 rfl (fsd (by omega))
  replace h_out := h_out.kept hF 1 rfl (fsd (by omega))
  replace h_outD := h_outD.kept hF 1 rfl (fsd (by omega))
  show V p l e room_1 s m args below meth cd Q 9 H2 lo2 (kq + 1) (nq + 6) 2609 [(6, .int (zI 0)), (5, .int (zI i)), (4, .ref (x + 340)), (3, .ref (x + 339)), (2, .ref (x + 334)), (1, .ref x), (0, .ref b)] [.int (zI (co 12 a1))]
  refine v_istore X dL_law_2609 2611 rfl (by decide) (L' := [(7, .int (zI (co 12 a1))), (6, .int (zI 0)), (5, .int (zI i)), (4, .ref (x + 340)), (3, .ref (x + 339)), (2, .ref (x + 334)), (1, .ref x), (0, .ref b)]) rfl ?_
  refine v_aload_n X dL_law_2611 2612 rfl 5 rfl ?_
  refine v_rdV X hM.C h_mo.1 (c_X10_thrown l E (x + 334) (updC mo 0 (updZ (mo 0) 0 0))) kvX10_thrown kiX10_thrown kl_L_196 rfl rfl (As := []) rfl rfl (rm_law0 rfl (by omega) (by omega)) dL_law_2612 2615 rfl ?_
  show V p l e room_1 s m args below meth cd Q 9 H2 lo2 (kq + 1) (nq + 6) 2615 [(7, .int (zI (co 12 a1))), (6, .int (zI 0)), (5, .int (zI i)), (4, .ref (x + 340)), (3, .ref (x + 339)), (2, .ref (x + 334)), (1, .ref x), (0, .ref b)] [.int (zI 0)]
  refine v_iload X dL_law_2615 2617 rfl 1 rfl ?_
  refine v_icmp_eq X (by omega) (by omega) dL_law_2617 2620 2622 rfl (by decide) (fun c_3 => ?_) (fun c_3 => ?_)
  · skip
    refine v_iload X dL_law_2622 2624 rfl 1 rfl ?_
    refine v_if_ne X (by omega) dL_law_2624 2627 2639 rfl (by decide) (fun c_4 => ?_) (fun c_4 => ?_)
    · skip
      exfalso; omega
    · skip
      refine v_aload_n X dL_law_2627 2628 rfl 4 rfl ?_
      refine v_iconst X dL_law_2628 2629 rfl ?_
      refine v_lald X hM.C h_out.1 0 rfl dL_law_2629 2630 rfl ?_
      show V p l e room_1 s m args below meth cd Q 9 H2 lo2 (kq + 1) (nq + 6) 2630 [(7, .int (zI (co 12 a1))), (6, .int (zI 0)), (5, .int (zI i)), (4, .ref (x + 340)), (3, .ref (x + 339)), (2, .ref (x + 334)), (1, .ref x), (0, .ref b)] [.long (zL (co 12 a1))]
      refine v_iload X dL_law_2630 2632 rfl 0 rfl ?_
      refine v_i2l X dL_law_2632 2633 rfl ?_
      refine v_lcmp0 X dL_law_2633 2634 rfl ?_
      refine v_if_eq X (by omega) dL_law_2634 2637 2639 rfl (by decide) (fun c_5 => ?_) (fun c_5 => ?_)
      · skip
        refine v_goto X dL_law_2639 3555 (by decide) ?_
        refine v_widen (k' := kq + 60) (n' := nq + 4000) (by omega) (by omega) ?_
        exact V_pick [2, 3, 4, 5, 6, 7] rfl (kk _ _ hM ⟨hzl, _, _, _, _, _, _, _, _, _, _, _, _, _, _, _, _, _, _, _, _, _, _, _, _, _, _, _, _, ⟨h_cm, h_co, h_bf, h_sv, h_hi, h_hf, h_dk, h_se, h_pg, h_sb, h_sa, h_pr, h_ln, h_la, h_mo, h_out, h_outD⟩, hP0.mo_0⟩)
      · skip
        exfalso; omega
  · skip
    exfalso; omega
set_option maxHeartbeats 4000000 in
set_option maxRecDepth 20000 in
theorem lo_sentence_1 (hl : l.stackTraces = false) (X : CF p m cd code 9 s args RL) (hX : va_X b Lx xs s s.heap) (hbl : b < s.heap.size) (hLx : Lx ≤ 2560) (hM : MS E [] s H lo) (hk : kq + 60 ≤ 603072) (hn : nq + 4000 ≤ 7211113) (hx : s.heap.size ≤ x) (hzl : x + 341 ≤ H.size) {v : Nat} {N : Nat} {f : Int → Int} {nn : Int} {v2 : Nat} {N2 : Nat} {f2 : Int → Int} {n2 : Int} {co : Nat → Int → Int} {bf : Nat → Int → Int} {cv : Nat → Int → Int} {hc : Nat → Nat → Int → Int} {nx : Int} {sz : Int} {hs : Int} {er : Int} {fa : Int} {ss : Int} {dk : Nat → Int → Int} {se : Nat → Int → Int} {po : Int} {si : Int} {pr : Nat → Int → Int} {ml : Int} {ml2 : Int} {mo : Nat → Int → Int} {lg : Nat → Int64} {dg : Nat → UInt64} (hW : LawW E x v N f nn v2 N2 f2 n2 co bf cv hc nx sz hs er fa ss dk se po si pr ml ml2 mo lg dg H) (hP : LawP x v N f nn v2 N2 f2 n2 co cv hc nx sz hs er fa ss po si pr mo) (i0 : 0 ≤ i) (i1 : i + 5 ≤ (Lx : Int)) {a1 : Int} (ha1 : (xs (i + 1).toNat).toInt = a1) (ga1 : Rg a1) (q0 : ¬ (0 ≤ a1 ∧ a1 < 6)) (kk : ∀ (H1 : Heap) (lo1 : List Loc), MS E [] s H1 lo1 → LawI E x H1 → V p l e room_1 s m args below meth cd Q 9 H1 lo1 (kq + 60) (nq + 4000) 3555 [(5, .int (zI i)), (4, .ref (x + 340)), (3, .ref (x + 339)), (2, .ref (x + 334)), (1, .ref x), (0, .ref b)] []) : V p l e room_1 s m args below meth cd Q 9 H lo kq nq 2586 [(5, .int (zI i)), (4, .ref (x + 340)), (3, .ref (x + 339)), (2, .ref (x + 334)), (1, .ref x), (0, .ref b)] [] := by
  obtain ⟨h_cm, h_co, h_bf, h_sv, h_hi, h_hf, h_dk, h_se, h_pg, h_sb, h_sa, h_pr, h_ln, h_la, h_mo, h_out, h_outD⟩ := hW
  have hP0 := hP
  obtain ⟨⟨hD, hDv, hDh⟩, ⟨hRM, hch, hcs⟩, ⟨⟨n0, n1⟩, ⟨s0, s1⟩, hhs⟩, ⟨hm8, hnn, hAg, hNN, hnN, hf9⟩, ⟨T, hSB, hLT, hn38⟩, hPB, ⟨her, hfa, hss, ger, gfa, gss, gms⟩, ⟨gpo, gsi⟩, ⟨hv1, hv2, hvv⟩⟩ := hP
  have hO := hD.inv.ok
  have hI := hD.inv.ts
  have hSt := hD.inv.st
  have hS := hD.inv.sn
  have hR := hRM.1.2
  have hG := gp_inv hD
  have hb0 := hO.b0
  have hbw := hO.bw
  have hbf : ¬ Fr [] s.heap.size b := fun z => z.elim (fun q => q.elim) (fun q => by omega)
  refine v_aload_n X dL_law_2586 2587 rfl 4 rfl ?_
  refine v_aload_n X dL_law_2587 2588 rfl 5 rfl ?_
  refine v_iload X dL_law_2588 2590 rfl 0 rfl ?_
  refine v_iconst X dL_law_2590 2591 rfl ?_
  refine v_iadd X dL_law_2591 2592 rfl ?_
  refine v_scr X hM hX hbl hbf (by omega) (by omega) hLx ha1 dL_law_2592 2593 rfl ?_
  refine v_aload_n X dL_law_2593 2594 rfl 2 rfl ?_
  refine v_mwS X hM (w_X9_sentence_0_t l hl E x co hs er fa ss a1 (x + 339) lg hO ga1 q0) kwL_sentence ksL_sentence kl_L_317 (As := [.ref x, .int (zI a1), .ref (x + 339)]) rfl rfl (rm_lawW rfl (by omega) (by omega)) dL_law_2594 2597 rfl (k' := kq + 1) (n' := nq + 6) rfl rfl (fun q hq => hq.elim) ⟨h_cm, h_co, h_out⟩ (fun rv H1 lo1 hM hF hpo => ?_)
  subst hpo
  replace hzl := Nat.le_trans hzl hF.1
  replace h_cm := h_cm.kept hF 1 rfl (fun q _ _ h => h.elim)
  replace h_co := h_co.kept hF 28 rfl (fun q _ _ h => h.elim)
  replace h_bf := h_bf.kept hF 28 rfl (fun q _ _ h => h.elim)
  replace h_sv := h_sv.kept hF 28 rfl (fun q _ _ h => h.elim)
  replace h_hi := h_hi.kept hF 2 rfl (fun q _ _ h => h.elim)
  replace h_hf := h_hf.kept hF (fun q _ _ h => h.elim)
  replace h_dk := h_dk.kept hF 3 rfl (fun q _ _ h => h.elim)
  replace h_se := h_se.kept hF 5 rfl (fun q _ _ h => h.elim)
  replace h_pg := h_pg.kept hF 1 rfl (fun q _ _ h => h.elim)
  replace h_sb := h_sb.kept hF 1 rfl (fun q _ _ h => h.elim)
  replace h_sa := h_sa.kept hF 1 rfl (fun q _ _ h => h.elim)
  replace h_pr := h_pr.kept hF 10 rfl (fun q _ _ h => h.elim)
  replace h_ln := h_ln.kept hF 1 rfl (fun q _ _ h => h.elim)
  replace h_la := h_la.kept hF 1 rfl (fun q _ _ h => h.elim)
  replace h_mo := h_mo.kept hF 5 rfl (fun q _ _ h => h.elim)
  replace h_out := h_out.kept hF 1 rfl (fun q _ _ h => h.elim)
  replace h_outD := h_outD.kept hF 1 rfl (fun q _ _ h => h.elim)
  show V p l e room_1 s m args below meth cd Q 9 H1 lo1 (kq + 1) (nq + 6) 2597 [(5, .int (zI i)), (4, .ref (x + 340)), (3, .ref (x + 339)), (2, .ref (x + 334)), (1, .ref x), (0, .ref b)] [.int (zI 1)]
  refine v_istore X dL_law_2597 2599 rfl (by decide) (L' := [(6, .int (zI 1)), (5, .int (zI i)), (4, .ref (x + 340)), (3, .ref (x + 339)), (2, .ref (x + 334)), (1, .ref x), (0, .ref b)]) rfl ?_
  refine v_aload_n X dL_law_2599 2600 rfl 4 rfl ?_
  refine v_aload_n X dL_law_2600 2601 rfl 6 rfl ?_
  refine v_iload X dL_law_2601 2603 rfl 1 rfl ?_
  refine v_iconst X dL_law_2603 2604 rfl ?_
  refine v_iadd X dL_law_2604 2605 rfl ?_
  refine v_scr X hM hX hbl hbf (by omega) (by omega) hLx ha1 dL_law_2605 2606 rfl ?_
  refine v_muV X hM (h_mo.1) (c_X10_sentence_0 l E (x + 334) mo co a1 hO hR hS ga1 q0) kvX10_sentence kiX10_sentence kl_L_319 (q0 := 0) rfl rfl (As := [.int (zI a1)]) rfl rfl (rm_law rfl (by omega) (by omega)) dL_law_2606 2609 rfl (k' := kq + 1) (n' := nq + 6) rfl rfl (fsI (fun q q1 q2 => (Or.inr (by omega)))) h_mo (fun rv H2 lo2 hM hF hpo => ?_)
  obtain ⟨rfl, hw_0⟩ := hpo
  have h_mo : PR E (x + 334) (modelW E (x + 334) (updC mo 0 (updZ (mo 0) 0 1))) H2 := hw_0
  replace hzl := Nat.le_trans hzl hF.1
  replace h_cm := h_cm.kept hF 1 rfl (fsd (by omega))
  replace h_co := h_co.kept hF 28 rfl (fsd (by omega))
  replace h_bf := h_bf.kept hF 28 rfl (fsd (by omega))
  replace h_sv := h_sv.kept hF 28 rfl (fsd (by omega))
  replace h_hi := h_hi.kept hF 2 rfl (fsd (by omega))
  replace h_hf := h_hf.kept hF (fsd (by omega))
  replace h_dk := h_dk.kept hF 3 rfl (fsd (by omega))
  replace h_se := h_se.kept hF 5 rfl (fsd (by omega))
  replace h_pg := h_pg.kept hF 1 rfl (fsd (by omega))
  replace h_sb := h_sb.kept hF 1 rfl (fsd (by omega))
  replace h_sa := h_sa.kept hF 1 rfl (fsd (by omega))
  replace h_pr := h_pr.kept hF 10 rfl (fsd (by omega))
  replace h_ln := h_ln.kept hF 1 rfl (fsd (by omega))
  replace h_la := h_la.kept hF 1 rfl (fsd (by omega))
  replace h_out := h_out.kept hF 1 rfl (fsd (by omega))
  replace h_outD := h_outD.kept hF 1 rfl (fsd (by omega))
  show V p l e room_1 s m args below meth cd Q 9 H2 lo2 (kq + 1) (nq + 6) 2609 [(6, .int (zI 1)), (5, .int (zI i)), (4, .ref (x + 340)), (3, .ref (x + 339)), (2, .ref (x + 334)), (1, .ref x), (0, .ref b)] [.int (zI 0)]
  refine v_istore X dL_law_2609 2611 rfl (by decide) (L' := [(7, .int (zI 0)), (6, .int (zI 1)), (5, .int (zI i)), (4, .ref (x + 340)), (3, .ref (x + 339)), (2, .ref (x + 334)), (1, .ref x), (0, .ref b)]) rfl ?_
  refine v_aload_n X dL_law_2611 2612 rfl 5 rfl ?_
  refine v_rdV X hM.C h_mo.1 (c_X10_thrown l E (x + 334) (updC mo 0 (updZ (mo 0) 0 1))) kvX10_thrown kiX10_thrown kl_L_196 rfl rfl (As := []) rfl rfl (rm_law0 rfl (by omega) (by omega)) dL_law_2612 2615 rfl ?_
  show V p l e room_1 s m args below meth cd Q 9 H2 lo2 (kq + 1) (nq + 6) 2615 [(7, .int (zI 0)), (6, .int (zI 1)), (5, .int (zI i)), (4, .ref (x + 340)), (3, .ref (x + 339)), (2, .ref (x + 334)), (1, .ref x), (0, .ref b)] [.int (zI 1)]
  refine v_iload X dL_law_2615 2617 rfl 1 rfl ?_
  refine v_icmp_eq X (by omega) (by omega) dL_law_2617 2620 2622 rfl (by decide) (fun c_3 => ?_) (fun c_3 => ?_)
  · skip
    refine v_iload X dL_law_2622 2624 rfl 1 rfl ?_
    refine v_if_ne X (by omega) dL_law_2624 2627 2639 rfl (by decide) (fun c_4 => ?_) (fun c_4 => ?_)
    · skip
      refine v_goto X dL_law_2639 3555 (by decide) ?_
      refine v_widen (k' := kq + 60) (n' := nq + 4000) (by omega) (by omega) ?_
      exact V_pick [2, 3, 4, 5, 6, 7] rfl (kk _ _ hM ⟨hzl, _, _, _, _, _, _, _, _, _, _, _, _, _, _, _, _, _, _, _, _, _, _, _, _, _, _, _, _, ⟨h_cm, h_co, h_bf, h_sv, h_hi, h_hf, h_dk, h_se, h_pg, h_sb, h_sa, h_pr, h_ln, h_la, h_mo, h_out, h_outD⟩, hP0.mo_0⟩)
    · skip
      exfalso; omega
  · skip
    exfalso; omega
set_option maxHeartbeats 4000000 in
set_option maxRecDepth 20000 in
theorem lo_sentenceByCases (hl : l.stackTraces = false) (X : CF p m cd code 9 s args RL) (hX : va_X b Lx xs s s.heap) (hbl : b < s.heap.size) (hLx : Lx ≤ 2560) (hM : MS E [] s H lo) (hk : kq + 60 ≤ 603072) (hn : nq + 4000 ≤ 7211113) (hx : s.heap.size ≤ x) (hzl : x + 341 ≤ H.size) {v : Nat} {N : Nat} {f : Int → Int} {nn : Int} {v2 : Nat} {N2 : Nat} {f2 : Int → Int} {n2 : Int} {co : Nat → Int → Int} {bf : Nat → Int → Int} {cv : Nat → Int → Int} {hc : Nat → Nat → Int → Int} {nx : Int} {sz : Int} {hs : Int} {er : Int} {fa : Int} {ss : Int} {dk : Nat → Int → Int} {se : Nat → Int → Int} {po : Int} {si : Int} {pr : Nat → Int → Int} {ml : Int} {ml2 : Int} {mo : Nat → Int → Int} {lg : Nat → Int64} {dg : Nat → UInt64} (hW : LawW E x v N f nn v2 N2 f2 n2 co bf cv hc nx sz hs er fa ss dk se po si pr ml ml2 mo lg dg H) (hP : LawP x v N f nn v2 N2 f2 n2 co cv hc nx sz hs er fa ss po si pr mo) (i0 : 0 ≤ i) (i1 : i + 5 ≤ (Lx : Int)) {a1 : Int} (ha1 : (xs (i + 1).toNat).toInt = a1) (ga1 : Rg a1) (q0 : 0 ≤ a1 ∧ a1 < 6) (kk : ∀ (H1 : Heap) (lo1 : List Loc), MS E [] s H1 lo1 → LawI E x H1 → V p l e room_1 s m args below meth cd Q 9 H1 lo1 (kq + 60) (nq + 4000) 3555 [(5, .int (zI i)), (4, .ref (x + 340)), (3, .ref (x + 339)), (2, .ref (x + 334)), (1, .ref x), (0, .ref b)] []) : V p l e room_1 s m args below meth cd Q 9 H lo kq nq 2642 [(5, .int (zI i)), (4, .ref (x + 340)), (3, .ref (x + 339)), (2, .ref (x + 334)), (1, .ref x), (0, .ref b)] [] := by
  obtain ⟨h_cm, h_co, h_bf, h_sv, h_hi, h_hf, h_dk, h_se, h_pg, h_sb, h_sa, h_pr, h_ln, h_la, h_mo, h_out, h_outD⟩ := hW
  have hP0 := hP
  obtain ⟨⟨hD, hDv, hDh⟩, ⟨hRM, hch, hcs⟩, ⟨⟨n0, n1⟩, ⟨s0, s1⟩, hhs⟩, ⟨hm8, hnn, hAg, hNN, hnN, hf9⟩, ⟨T, hSB, hLT, hn38⟩, hPB, ⟨her, hfa, hss, ger, gfa, gss, gms⟩, ⟨gpo, gsi⟩, ⟨hv1, hv2, hvv⟩⟩ := hP
  have hO := hD.inv.ok
  have hI := hD.inv.ts
  have hSt := hD.inv.st
  have hS := hD.inv.sn
  have hR := hRM.1.2
  have hG := gp_inv hD
  have hb0 := hO.b0
  have hbw := hO.bw
  have hbf : ¬ Fr [] s.heap.size b := fun z => z.elim (fun q => q.elim) (fun q => by omega)
  refine v_aload_n X dL_law_2642 2643 rfl 4 rfl ?_
  refine v_aload_n X dL_law_2643 2644 rfl 5 rfl ?_
  refine v_iload X dL_law_2644 2646 rfl 0 rfl ?_
  refine v_iconst X dL_law_2646 2647 rfl ?_
  refine v_iadd X dL_law_2647 2648 rfl ?_
  refine v_scr X hM hX hbl hbf (by omega) (by omega) hLx ha1 dL_law_2648 2649 rfl ?_
  refine v_aload_n X dL_law_2649 2650 rfl 2 rfl ?_
  refine v_mwS X hM (w_X9_sentenceByCases l hl E x co hs er fa ss a1 (x + 339) lg hO ga1 q0 (by omega) (by omega)) kwL_sentenceByCases ksL_sentenceByCases kl_L_320 (As := [.ref x, .int (zI a1), .ref (x + 339)]) rfl rfl (rm_lawW rfl (by omega) (by omega)) dL_law_2650 2653 rfl (k' := kq + 1) (n' := nq + 6) rfl rfl (fsI (fun q q1 q2 => (Or.inr (by omega)))) ⟨h_cm, h_co, h_out⟩ (fun rv H1 lo1 hM hF hpo => ?_)
  obtain ⟨rfl, hw_0⟩ := hpo
  have h_out : PR E (x + 339) [(x + 339, .inl (E 102 4, 1, .inr (.inl (fun _ => zL (sumZ (fun j => if co 1 j = a1 ∧ ¬ co 4 j = 0 then co 2 j + 1 else 0) (co 0 0).toNat)))))] H1 := hw_0
  replace hzl := Nat.le_trans hzl hF.1
  replace h_cm := h_cm.kept hF 1 rfl (fsd (by omega))
  replace h_co := h_co.kept hF 28 rfl (fsd (by omega))
  replace h_bf := h_bf.kept hF 28 rfl (fsd (by omega))
  replace h_sv := h_sv.kept hF 28 rfl (fsd (by omega))
  replace h_hi := h_hi.kept hF 2 rfl (fsd (by omega))
  replace h_hf := h_hf.kept hF (fsd (by omega))
  replace h_dk := h_dk.kept hF 3 rfl (fsd (by omega))
  replace h_se := h_se.kept hF 5 rfl (fsd (by omega))
  replace h_pg := h_pg.kept hF 1 rfl (fsd (by omega))
  replace h_sb := h_sb.kept hF 1 rfl (fsd (by omega))
  replace h_sa := h_sa.kept hF 1 rfl (fsd (by omega))
  replace h_pr := h_pr.kept hF 10 rfl (fsd (by omega))
  replace h_ln := h_ln.kept hF 1 rfl (fsd (by omega))
  replace h_la := h_la.kept hF 1 rfl (fsd (by omega))
  replace h_mo := h_mo.kept hF 5 rfl (fsd (by omega))
  replace h_outD := h_outD.kept hF 1 rfl (fsd (by omega))
  show V p l e room_1 s m args below meth cd Q 9 H1 lo1 (kq + 1) (nq + 6) 2653 [(5, .int (zI i)), (4, .ref (x + 340)), (3, .ref (x + 339)), (2, .ref (x + 334)), (1, .ref x), (0, .ref b)] [.int (zI 0)]
  refine v_istore X dL_law_2653 2655 rfl (by decide) (L' := [(6, .int (zI 0)), (5, .int (zI i)), (4, .ref (x + 340)), (3, .ref (x + 339)), (2, .ref (x + 334)), (1, .ref x), (0, .ref b)]) rfl ?_
  refine v_aload_n X dL_law_2655 2656 rfl 4 rfl ?_
  refine v_aload_n X dL_law_2656 2657 rfl 6 rfl ?_
  refine v_iload X dL_law_2657 2659 rfl 1 rfl ?_
  refine v_iconst X dL_law_2659 2660 rfl ?_
  refine v_iadd X dL_law_2660 2661 rfl ?_
  refine v_scr X hM hX hbl hbf (by omega) (by omega) hLx ha1 dL_law_2661 2662 rfl ?_
  refine v_muV X hM (h_mo.1) (c_X10_sentenceByCases l E (x + 334) mo co a1 hO hR hS ga1 q0) kvX10_sentenceByCases kiX10_sentenceByCases kl_L_322 (q0 := 0) rfl rfl (As := [.int (zI a1)]) rfl rfl (rm_law rfl (by omega) (by omega)) dL_law_2662 2665 rfl (k' := kq + 1) (n' := nq + 6) rfl rfl (fsI (fun q q1 q2 => (Or.inr (by omega)))) h_mo (fun rv H2 lo2 hM hF hpo => ?_)
  obtain ⟨rfl, hw_0⟩ := hpo
  have h_mo : PR E (x + 334) (modelW E (x + 334) (updC mo 0 (updZ (mo 0) 0 0))) H2 := hw_0
  replace hzl := Nat.le_trans hzl hF.1
  replace h_cm := h_cm.kept hF 1 rfl (fsd (by omega))
  replace h_co := h_co.kept hF 28 rfl (fsd (by omega))
  replace h_bf := h_bf.kept hF 28 rfl (fsd (by omega))
  replace h_sv := h_sv.kept hF 28 rfl (fsd (by omega))
  replace h_hi := h_hi.kept hF 2 rfl (fsd (by omega))
  replace h_hf := h_hf.kept hF (fsd (by omega))
  replace h_dk := h_dk.kept hF 3 rfl (fsd (by omega))
  replace h_se := h_se.kept hF 5 rfl (fsd (by omega))
  replace h_pg := h_pg.kept hF 1 rfl (fsd (by omega))
  replace h_sb := h_sb.kept hF 1 rfl (fsd (by omega))
  replace h_sa := h_sa.kept hF 1 rfl (fsd (by omega))
  replace h_pr := h_pr.kept hF 10 rfl (fsd (by omega))
  replace h_ln := h_ln.kept hF 1 rfl (fsd (by omega))
  replace h_la := h_la.kept hF 1 rfl (fsd (by omega))
  replace h_out := h_out.kept hF 1 rfl (fsd (by omega))
  replace h_outD := h_outD.kept hF 1 rfl (fsd (by omega))
  show V p l e room_1 s m args below meth cd Q 9 H2 lo2 (kq + 1) (nq + 6) 2665 [(6, .int (zI 0)), (5, .int (zI i)), (4, .ref (x + 340)), (3, .ref (x + 339)), (2, .ref (x + 334)), (1, .ref x), (0, .ref b)] [.int (zI (co 12 a1))]
  refine v_istore X dL_law_2665 2667 rfl (by decide) (L' := [(7, .int (zI (co 12 a1))), (6, .int (zI 0)), (5, .int (zI i)), (4, .ref (x + 340)), (3, .ref (x + 339)), (2, .ref (x + 334)), (1, .ref x), (0, .ref b)]) rfl ?_
  refine v_aload_n X dL_law_2667 2668 rfl 5 rfl ?_
  refine v_rdV X hM.C h_mo.1 (c_X10_thrown l E (x + 334) (updC mo 0 (updZ (mo 0) 0 0))) kvX10_thrown kiX10_thrown kl_L_196 rfl rfl (As := []) rfl rfl (rm_law0 rfl (by omega) (by omega)) dL_law_2668 2671 rfl ?_
  show V p l e room_1 s m args below meth cd Q 9 H2 lo2 (kq + 1) (nq + 6) 2671 [(7, .int (zI (co 12 a1))), (6, .int (zI 0)), (5, .int (zI i)), (4, .ref (x + 340)), (3, .ref (x + 339)), (2, .ref (x + 334)), (1, .ref x), (0, .ref b)] [.int (zI 0)]
  refine v_iload X dL_law_2671 2673 rfl 1 rfl ?_
  refine v_icmp_eq X (by omega) (by omega) dL_law_2673 2676 2678 rfl (by decide) (fun c_3 => ?_) (fun c_3 => ?_)
  · skip
    refine v_iload X dL_law_2678 2680 rfl 1 rfl ?_
    refine v_if_ne X (by omega) dL_law_2680 2683 2695 rfl (by decide) (fun c_4 => ?_) (fun c_4 => ?_)
    · skip
      exfalso; omega
    · skip
      refine v_aload_n X dL_law_2683 2684 rfl 4 rfl ?_
      refine v_iconst X dL_law_2684 2685 rfl ?_
      refine v_lald X hM.C h_out.1 0 rfl dL_law_2685 2686 rfl ?_
      show V p l e room_1 s m args below meth cd Q 9 H2 lo2 (kq + 1) (nq + 6) 2686 [(7, .int (zI (co 12 a1))), (6, .int (zI 0)), (5, .int (zI i)), (4, .ref (x + 340)), (3, .ref (x + 339)), (2, .ref (x + 334)), (1, .ref x), (0, .ref b)] [.long (zL (sumZ (fun j => if co 1 j = a1 ∧ ¬ co 4 j = 0 then co 2 j + 1 else 0) (co 0 0).toNat))]
      refine v_iload X dL_law_2686 2688 rfl 0 rfl ?_
      refine v_i2l X dL_law_2688 2689 rfl ?_
      refine V_S (st' := [.long (zL (co 12 a1)), .long (zL (co 12 a1))]) (by rw [show (sumZ (fun j => if co 1 j = a1 ∧ ¬ co 4 j = 0 then co 2 j + 1 else 0) (co 0 0).toNat : Int) = co 12 a1 from (hS a1 (by omega) (by omega)).symm]) ?_
      refine v_lcmp0 X dL_law_2689 2690 rfl ?_
      refine v_if_eq X (by omega) dL_law_2690 2693 2695 rfl (by decide) (fun c_5 => ?_) (fun c_5 => ?_)
      · skip
        refine v_goto X dL_law_2695 3555 (by decide) ?_
        refine v_widen (k' := kq + 60) (n' := nq + 4000) (by omega) (by omega) ?_
        exact V_pick [2, 3, 4, 5, 6, 7] rfl (kk _ _ hM ⟨hzl, _, _, _, _, _, _, _, _, _, _, _, _, _, _, _, _, _, _, _, _, _, _, _, _, _, _, _, _, ⟨h_cm, h_co, h_bf, h_sv, h_hi, h_hf, h_dk, h_se, h_pg, h_sb, h_sa, h_pr, h_ln, h_la, h_mo, h_out, h_outD⟩, hP0.mo_0⟩)
      · skip
        exfalso; omega
  · skip
    exfalso; omega
set_option maxHeartbeats 4000000 in
set_option maxRecDepth 20000 in
theorem lo_sentenceByCases_1 (hl : l.stackTraces = false) (X : CF p m cd code 9 s args RL) (hX : va_X b Lx xs s s.heap) (hbl : b < s.heap.size) (hLx : Lx ≤ 2560) (hM : MS E [] s H lo) (hk : kq + 60 ≤ 603072) (hn : nq + 4000 ≤ 7211113) (hx : s.heap.size ≤ x) (hzl : x + 341 ≤ H.size) {v : Nat} {N : Nat} {f : Int → Int} {nn : Int} {v2 : Nat} {N2 : Nat} {f2 : Int → Int} {n2 : Int} {co : Nat → Int → Int} {bf : Nat → Int → Int} {cv : Nat → Int → Int} {hc : Nat → Nat → Int → Int} {nx : Int} {sz : Int} {hs : Int} {er : Int} {fa : Int} {ss : Int} {dk : Nat → Int → Int} {se : Nat → Int → Int} {po : Int} {si : Int} {pr : Nat → Int → Int} {ml : Int} {ml2 : Int} {mo : Nat → Int → Int} {lg : Nat → Int64} {dg : Nat → UInt64} (hW : LawW E x v N f nn v2 N2 f2 n2 co bf cv hc nx sz hs er fa ss dk se po si pr ml ml2 mo lg dg H) (hP : LawP x v N f nn v2 N2 f2 n2 co cv hc nx sz hs er fa ss po si pr mo) (i0 : 0 ≤ i) (i1 : i + 5 ≤ (Lx : Int)) {a1 : Int} (ha1 : (xs (i + 1).toNat).toInt = a1) (ga1 : Rg a1) (q0 : ¬ (0 ≤ a1 ∧ a1 < 6)) (kk : ∀ (H1 : Heap) (lo1 : List Loc), MS E [] s H1 lo1 → LawI E x H1 → V p l e room_1 s m args below meth cd Q 9 H1 lo1 (kq + 60) (nq + 4000) 3555 [(5, .int (zI i)), (4, .ref (x + 340)), (3, .ref (x + 339)), (2, .ref (x + 334)), (1, .ref x), (0, .ref b)] []) : V p l e room_1 s m args below meth cd Q 9 H lo kq nq 2642 [(5, .int (zI i)), (4, .ref (x + 340)), (3, .ref (x + 339)), (2, .ref (x + 334)), (1, .ref x), (0, .ref b)] [] := by
  obtain ⟨h_cm, h_co, h_bf, h_sv, h_hi, h_hf, h_dk, h_se, h_pg, h_sb, h_sa, h_pr, h_ln, h_la, h_mo, h_out, h_outD⟩ := hW
  have hP0 := hP
  obtain ⟨⟨hD, hDv, hDh⟩, ⟨hRM, hch, hcs⟩, ⟨⟨n0, n1⟩, ⟨s0, s1⟩, hhs⟩, ⟨hm8, hnn, hAg, hNN, hnN, hf9⟩, ⟨T, hSB, hLT, hn38⟩, hPB, ⟨her, hfa, hss, ger, gfa, gss, gms⟩, ⟨gpo, gsi⟩, ⟨hv1, hv2, hvv⟩⟩ := hP
  have hO := hD.inv.ok
  have hI := hD.inv.ts
  have hSt := hD.inv.st
  have hS := hD.inv.sn
  have hR := hRM.1.2
  have hG := gp_inv hD
  have hb0 := hO.b0
  have hbw := hO.bw
  have hbf : ¬ Fr [] s.heap.size b := fun z => z.elim (fun q => q.elim) (fun q => by omega)
  refine v_aload_n X dL_law_2642 2643 rfl 4 rfl ?_
  refine v_aload_n X dL_law_2643 2644 rfl 5 rfl ?_
  refine v_iload X dL_law_2644 2646 rfl 0 rfl ?_
  refine v_iconst X dL_law_2646 2647 rfl ?_
  refine v_iadd X dL_law_2647 2648 rfl ?_
  refine v_scr X hM hX hbl hbf (by omega) (by omega) hLx ha1 dL_law_2648 2649 rfl ?_
  refine v_aload_n X dL_law_2649 2650 rfl 2 rfl ?_
  refine v_mwS X hM (w_X9_sentenceByCases_0_t l hl E x co hs er fa ss a1 (x + 339) lg hO ga1 q0) kwL_sentenceByCases ksL_sentenceByCases kl_L_320 (As := [.ref x, .int (zI a1), .ref (x + 339)]) rfl rfl (rm_lawW rfl (by omega) (by omega)) dL_law_2650 2653 rfl (k' := kq + 1) (n' := nq + 6) rfl rfl (fun q hq => hq.elim) ⟨h_cm, h_co, h_out⟩ (fun rv H1 lo1 hM hF hpo => ?_)
  subst hpo
  replace hzl := Nat.le_trans hzl hF.1
  replace h_cm := h_cm.kept hF 1 rfl (fun q _ _ h => h.elim)
  replace h_co := h_co.kept hF 28 rfl (fun q _ _ h => h.elim)
  replace h_bf := h_bf.kept hF 28 rfl (fun q _ _ h => h.elim)
  replace h_sv := h_sv.kept hF 28 rfl (fun q _ _ h => h.elim)
  replace h_hi := h_hi.kept hF 2 rfl (fun q _ _ h => h.elim)
  replace h_hf := h_hf.kept hF (fun q _ _ h => h.elim)
  replace h_dk := h_dk.kept hF 3 rfl (fun q _ _ h => h.elim)
  replace h_se := h_se.kept hF 5 rfl (fun q _ _ h => h.elim)
  replace h_pg := h_pg.kept hF 1 rfl (fun q _ _ h => h.elim)
  replace h_sb := h_sb.kept hF 1 rfl (fun q _ _ h => h.elim)
  replace h_sa := h_sa.kept hF 1 rfl (fun q _ _ h => h.elim)
  replace h_pr := h_pr.kept hF 10 rfl (fun q _ _ h => h.elim)
  replace h_ln := h_ln.kept hF 1 rfl (fun q _ _ h => h.elim)
  replace h_la := h_la.kept hF 1 rfl (fun q _ _ h => h.elim)
  replace h_mo := h_mo.kept hF 5 rfl (fun q _ _ h => h.elim)
  replace h_out := h_out.kept hF 1 rfl (fun q _ _ h => h.elim)
  replace h_outD := h_outD.kept hF 1 rfl (fun q _ _ h => h.elim)
  show V p l e room_1 s m args below meth cd Q 9 H1 lo1 (kq + 1) (nq + 6) 2653 [(5, .int (zI i)), (4, .ref (x + 340)), (3, .ref (x + 339)), (2, .ref (x + 334)), (1, .ref x), (0, .ref b)] [.int (zI 1)]
  refine v_istore X dL_law_2653 2655 rfl (by decide) (L' := [(6, .int (zI 1)), (5, .int (zI i)), (4, .ref (x + 340)), (3, .ref (x + 339)), (2, .ref (x + 334)), (1, .ref x), (0, .ref b)]) rfl ?_
  refine v_aload_n X dL_law_2655 2656 rfl 4 rfl ?_
  refine v_aload_n X dL_law_2656 2657 rfl 6 rfl ?_
  refine v_iload X dL_law_2657 2659 rfl 1 rfl ?_
  refine v_iconst X dL_law_2659 2660 rfl ?_
  refine v_iadd X dL_law_2660 2661 rfl ?_
  refine v_scr X hM hX hbl hbf (by omega) (by omega) hLx ha1 dL_law_2661 2662 rfl ?_
  refine v_muV X hM (h_mo.1) (c_X10_sentenceByCases_0 l E (x + 334) mo co a1 hO hR hS ga1 q0) kvX10_sentenceByCases kiX10_sentenceByCases kl_L_322 (q0 := 0) rfl rfl (As := [.int (zI a1)]) rfl rfl (rm_law rfl (by omega) (by omega)) dL_law_2662 2665 rfl (k' := kq + 1) (n' := nq + 6) rfl rfl (fsI (fun q q1 q2 => (Or.inr (by omega)))) h_mo (fun rv H2 lo2 hM hF hpo => ?_)
  obtain ⟨rfl, hw_0⟩ := hpo
  have h_mo : PR E (x + 334) (modelW E (x + 334) (updC mo 0 (updZ (mo 0) 0 1))) H2 := hw_0
  replace hzl := Nat.le_trans hzl hF.1
  replace h_cm := h_cm.kept hF 1 rfl (fsd (by omega))
  replace h_co := h_co.kept hF 28 rfl (fsd (by omega))
  replace h_bf := h_bf.kept hF 28 rfl (fsd (by omega))
  replace h_sv := h_sv.kept hF 28 rfl (fsd (by omega))
  replace h_hi := h_hi.kept hF 2 rfl (fsd (by omega))
  replace h_hf := h_hf.kept hF (fsd (by omega))
  replace h_dk := h_dk.kept hF 3 rfl (fsd (by omega))
  replace h_se := h_se.kept hF 5 rfl (fsd (by omega))
  replace h_pg := h_pg.kept hF 1 rfl (fsd (by omega))
  replace h_sb := h_sb.kept hF 1 rfl (fsd (by omega))
  replace h_sa := h_sa.kept hF 1 rfl (fsd (by omega))
  replace h_pr := h_pr.kept hF 10 rfl (fsd (by omega))
  replace h_ln := h_ln.kept hF 1 rfl (fsd (by omega))
  replace h_la := h_la.kept hF 1 rfl (fsd (by omega))
  replace h_out := h_out.kept hF 1 rfl (fsd (by omega))
  replace h_outD := h_outD.kept hF 1 rfl (fsd (by omega))
  show V p l e room_1 s m args below meth cd Q 9 H2 lo2 (kq + 1) (nq + 6) 2665 [(6, .int (zI 1)), (5, .int (zI i)), (4, .ref (x + 340)), (3, .ref (x + 339)), (2, .ref (x + 334)), (1, .ref x), (0, .ref b)] [.int (zI 0)]
  refine v_istore X dL_law_2665 2667 rfl (by decide) (L' := [(7, .int (zI 0)), (6, .int (zI 1)), (5, .int (zI i)), (4, .ref (x + 340)), (3, .ref (x + 339)), (2, .ref (x + 334)), (1, .ref x), (0, .ref b)]) rfl ?_
  refine v_aload_n X dL_law_2667 2668 rfl 5 rfl ?_
  refine v_rdV X hM.C h_mo.1 (c_X10_thrown l E (x + 334) (updC mo 0 (updZ (mo 0) 0 1))) kvX10_thrown kiX10_thrown kl_L_196 rfl rfl (As := []) rfl rfl (rm_law0 rfl (by omega) (by omega)) dL_law_2668 2671 rfl ?_
  show V p l e room_1 s m args below meth cd Q 9 H2 lo2 (kq + 1) (nq + 6) 2671 [(7, .int (zI 0)), (6, .int (zI 1)), (5, .int (zI i)), (4, .ref (x + 340)), (3, .ref (x + 339)), (2, .ref (x + 334)), (1, .ref x), (0, .ref b)] [.int (zI 1)]
  refine v_iload X dL_law_2671 2673 rfl 1 rfl ?_
  refine v_icmp_eq X (by omega) (by omega) dL_law_2673 2676 2678 rfl (by decide) (fun c_3 => ?_) (fun c_3 => ?_)
  · skip
    refine v_iload X dL_law_2678 2680 rfl 1 rfl ?_
    refine v_if_ne X (by omega) dL_law_2680 2683 2695 rfl (by decide) (fun c_4 => ?_) (fun c_4 => ?_)
    · skip
      refine v_goto X dL_law_2695 3555 (by decide) ?_
      refine v_widen (k' := kq + 60) (n' := nq + 4000) (by omega) (by omega) ?_
      exact V_pick [2, 3, 4, 5, 6, 7] rfl (kk _ _ hM ⟨hzl, _, _, _, _, _, _, _, _, _, _, _, _, _, _, _, _, _, _, _, _, _, _, _, _, _, _, _, _, ⟨h_cm, h_co, h_bf, h_sv, h_hi, h_hf, h_dk, h_se, h_pg, h_sb, h_sa, h_pr, h_ln, h_la, h_mo, h_out, h_outD⟩, hP0.mo_0⟩)
    · skip
      exfalso; omega
  · skip
    exfalso; omega
end LAWOPS
