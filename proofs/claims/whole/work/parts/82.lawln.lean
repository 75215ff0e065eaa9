section DBL
variable {p : Program} {l : Launch} {e : Env} {R : Room} {s : State} {m : MethodId} {args : Array Value} {below : List Frame} {meth : Method} {c : Code} {Q : State → Prop} {nL : Nat} {H : Heap} {locs : List Loc} {k n : Nat} {pc : Nat} {L L' : List (Nat × Value)} {st : List Value} {cc : ByteArray} {own : String}
theorem v_dstore {i : Nat} {x : UInt64} (X : CF p m c cc nL s args own) (hdg : decode cc pc = .ok (.dstore i, 2)) (pc' : Nat) (hp : pc + 2 = pc') (hn : i + 1 < nL) (hL : (i, Value.double x) :: L.filter (fun q => !(q.1 == i) && (!(q.1 == i + 1) && !(q.1 + 1 == i && q.2.category == 2))) = L') (kk : V p l e R s m args below meth c Q nL H locs k n pc' L' (st)) : V p l e R s m args below meth c Q nL H locs k n pc L (.double x :: st) := by
  subst hp
  exact fun ls hl => lv_dstore X.1 X.2.1 hdg hl hn hL (fun ls' hl' => kk ls' hl')
end DBL
theorem LawP.line {x : Nat} {v : Nat} {N : Nat} {f : Int → Int} {nn : Int} {v2 : Nat} {N2 : Nat} {f2 : Int → Int} {n2 : Int} {co : Nat → Int → Int} {cv : Nat → Int → Int} {hc : Nat → Nat → Int → Int} {nx : Int} {sz : Int} {hs : Int} {er : Int} {fa : Int} {ss : Int} {po : Int} {si : Int} {pr : Nat → Int → Int} {mo : Nat → Int → Int} {v3 N3 : Nat} {f3 f1 : Int → Int} {n3 m1 : Int} {U : List Int} (h : LawP x v N f nn v2 N2 f2 n2 co cv hc nx sz hs er fa ss po si pr mo) (hv : v3 = v2 ∨ x + 341 ≤ v3) (hne : ¬ v = v3) (hS : SBs f3 N3 n3 U) (hn : n3 ≤ 38) (hL : LT f1 m1 U) : LawP x v N f nn v3 N3 f3 n3 co cv hc nx sz hs er fa ss po si pr (updC (updC mo 0 (updZ (updZ (mo 0) 0 0) 6 m1)) 2 f1) := by
  obtain ⟨⟨hD, hDv, hDh⟩, ⟨hRM, hch, hcs⟩, ⟨⟨n0, n1⟩, ⟨s0, s1⟩, hhs⟩, ⟨hm8, hnn, hAg, hNN, hnN, hf9⟩, ⟨T, hSB, hLT, hn38⟩, hPB, ⟨her, hfa, hss, ger, gfa, gss, gms⟩, ⟨gpo, gsi⟩, ⟨hv1, hv2, hvv⟩⟩ := h
  exact ⟨⟨hD, hDv, hDh⟩, ⟨hRM, hch, hcs⟩, ⟨⟨n0, n1⟩, ⟨s0, s1⟩, hhs⟩, ⟨hm8, hnn, hAg, hNN, hnN, hf9⟩, ⟨U, hS, hL, hn⟩, hPB, ⟨her, hfa, hss, ger, gfa, gss, gms⟩, ⟨gpo, gsi⟩, ⟨hv1, hv.elim (fun q => by rw [q]; exact hv2) Or.inr, hne⟩⟩
theorem LawP.app {x : Nat} {v : Nat} {N : Nat} {f : Int → Int} {nn : Int} {v2 : Nat} {N2 : Nat} {f2 : Int → Int} {n2 : Int} {co : Nat → Int → Int} {cv : Nat → Int → Int} {hc : Nat → Nat → Int → Int} {nx : Int} {sz : Int} {hs : Int} {er : Int} {fa : Int} {ss : Int} {po : Int} {si : Int} {pr : Nat → Int → Int} {mo : Nat → Int → Int} {v3 N3 : Nat} {f3 : Int → Int} {ch : Int} (h : LawP x v N f nn v2 N2 f2 n2 co cv hc nx sz hs er fa ss po si pr mo) (hv : v3 = v ∨ x + 341 ≤ v3) (hne : ¬ v3 = v2) (hl : nn < 60) (hN : N3 = 16 ∨ N3 = 34 ∨ N3 = 70) (hn : nn + 1 ≤ (N3 : Int)) (hf : ∀ j : Int, 0 ≤ j ∧ j < nn → f3 j = f j) (hcx : f3 nn = ch) (hb : ∀ j : Int, 0 ≤ f3 j ∧ f3 j < 128) : LawP x v3 N3 f3 (nn + 1) v2 N2 f2 n2 co cv hc nx sz hs er fa ss po si pr (updC (updC mo 0 (updZ (updZ (mo 0) 0 0) 8 (mo 0 8 + 1))) 3 (updZ (mo 3) (mo 0 8) ch)) := by
  obtain ⟨⟨hD, hDv, hDh⟩, ⟨hRM, hch, hcs⟩, ⟨⟨n0, n1⟩, ⟨s0, s1⟩, hhs⟩, ⟨hm8, hnn, hAg, hNN, hnN, hf9⟩, ⟨T, hSB, hLT, hn38⟩, hPB, ⟨her, hfa, hss, ger, gfa, gss, gms⟩, ⟨gpo, gsi⟩, ⟨hv1, hv2, hvv⟩⟩ := h
  refine ⟨⟨hD, hDv, hDh⟩, ⟨hRM, hch, hcs⟩, ⟨⟨n0, n1⟩, ⟨s0, s1⟩, hhs⟩, ⟨?_, by omega, ?_, hN, hn, hb⟩, ⟨T, hSB, hLT, hn38⟩, hPB, ⟨her, hfa, hss, ger, gfa, gss, gms⟩, ⟨gpo, gsi⟩, ⟨hv.elim (fun q => by rw [q]; exact hv1) Or.inr, hv2, hne⟩⟩
  · show mo 0 8 + 1 = nn + 1
    rw [hm8]
  · intro j j0 j1
    show updZ (mo 3) (mo 0 8) ch j = f3 j
    rw [hm8]
    by_cases q : j = nn
    · rw [q, updZ_at, hcx]
    · rw [updZ_ne _ _ q, hf j ⟨j0, by omega⟩]
      exact hAg j j0 (by omega)
section LAWOPS
variable {p : Program} {l : Launch} {e : Env} {s : State} {m : MethodId} {args : Array Value} {below : List Frame} {meth : Method} {cd : Code} {Q : State → Prop} {H : Heap} {lo : List Loc} {kq nq : Nat} {E : Nat → Nat → Nat} {b Lx x : Nat} {xs : Nat → Int32} {i : Int}
set_option maxHeartbeats 4000000 in
set_option maxRecDepth 20000 in
theorem lo_meanCredibility (hl : l.stackTraces = false) (X : CF p m cd code 9 s args RL) (hX : va_X b Lx xs s s.heap) (hbl : b < s.heap.size) (hLx : Lx ≤ 2560) (hM : MS E [] s H lo) (hk : kq + 60 ≤ 603072) (hn : nq + 4000 ≤ 7211113) (hx : s.heap.size ≤ x) (hzl : x + 341 ≤ H.size) {v : Nat} {N : Nat} {f : Int → Int} {nn : Int} {v2 : Nat} {N2 : Nat} {f2 : Int → Int} {n2 : Int} {co : Nat → Int → Int} {bf : Nat → Int → Int} {cv : Nat → Int → Int} {hc : Nat → Nat → Int → Int} {nx : Int} {sz : Int} {hs : Int} {er : Int} {fa : Int} {ss : Int} {dk : Nat → Int → Int} {se : Nat → Int → Int} {po : Int} {si : Int} {pr : Nat → Int → Int} {ml : Int} {ml2 : Int} {mo : Nat → Int → Int} {lg : Nat → Int64} {dg : Nat → UInt64} (hW : LawW E x v N f nn v2 N2 f2 n2 co bf cv hc nx sz hs er fa ss dk se po si pr ml ml2 mo lg dg H) (hP : LawP x v N f nn v2 N2 f2 n2 co cv hc nx sz hs er fa ss po si pr mo) (i0 : 0 ≤ i) (i1 : i + 5 ≤ (Lx : Int)) (q0 : ¬ co 0 1 = 0) (kk : ∀ (H1 : Heap) (lo1 : List Loc), MS E [] s H1 lo1 → LawI E x H1 → V p l e room_1 s m args below meth cd Q 9 H1 lo1 (kq + 60) (nq + 4000) 3555 [(5, .int (zI i)), (4, .ref (x + 340)), (3, .ref (x + 339)), (2, .ref (x + 334)), (1, .ref x), (0, .ref b)] []) : V p l e room_1 s m args below meth cd Q 9 H lo kq nq 2888 [(5, .int (zI i)), (4, .ref (x + 340)), (3, .ref (x + 339)), (2, .ref (x + 334)), (1, .ref x), (0, .ref b)] [] := by
  obtain ⟨h_cm, h_co, h_bf, h_sv, h_hi, h_hf, h_dk, h_se, h_pg, h_sb, h_sa, h_pr, h_ln, h_la, h_mo, h_out, h_outD⟩ := hW
  have hP0 := hP
  obtain ⟨⟨hD, hDv, hDh⟩, ⟨hRM, hch, hcs⟩, ⟨⟨n0, n1⟩, ⟨s0, s1⟩, hhs⟩, ⟨hm8, hnn, hAg, hNN, hnN, hf9⟩, ⟨T, hSB, hLT, hn38⟩, hPB, ⟨her, hfa, hss, ger, gfa, gss, gms⟩, ⟨gpo, gsi⟩, ⟨hv1, hv2, hvv⟩⟩ := hP
  have hO := hD.inv.ok
  have hI := hD.inv.ts
  have hSt := hD.inv.st
  have hS := hD.inv.sn
  have hR := hRM.1.2
  have hG := gp_inv hD
  have hb0 := hO.b0
  have hbw := hO.bw
  have hbf : ¬ Fr [] s.heap.size b := fun z => z.elim (fun q => q.elim) (fun q => by omega)
  have hsb := sumZ_b (f := fun j => co 11 j) (lo := 0) (hi := 9) (n := (co 0 1).toNat) (fun j _ _ => hO.b11 j)
  refine v_aload_n X dL_law_2888 2889 rfl 4 rfl ?_
  refine v_aload X dL_law_2889 2891 rfl 1 rfl ?_
  refine v_mwS X hM (w_X9_meanCredibility l hl E x co hs er fa ss (x + 340) dg hO q0 (by omega) (by omega)) kwL_meanCredibility ksL_meanCredibility kl_L_353 (As := [.ref x, .ref (x + 340)]) rfl rfl (rm_lawW rfl (by omega) (by omega)) dL_law_2891 2894 rfl (k' := kq + 0) (n' := nq + 0) rfl rfl (fsI (fun q q1 q2 => (Or.inr (by omega)))) ⟨h_cm, h_co, h_outD⟩ (fun rv H1 lo1 hM hF hpo => ?_)
  obtain ⟨rfl, hw_0⟩ := hpo
  have h_outD : PR E (x + 340) [(x + 340, .inl (E 102 5, 1, .inr (.inr (.inr (.inl (fun _ => dvD (sumZ (fun j => co 11 j) (co 0 1).toNat) (co 0 1)))))))] H1 := hw_0
  replace hzl := Nat.le_trans hzl hF.1
  replace h_cm := h_cm.kept hF 1 rfl (fsd (by omega))
  replace h_co := h_co.kept hF 28 rfl (fsd (by omega))
  replace h_bf := h_bf.kept hF 28 rfl (fsd (by omega))
  replace h_sv := h_sv.kept hF 28 rfl (fsd (by omega))
  replace h_hi := h_hi.kept hF 2 rfl (fsd (by omega))
  replace h_hf := h_hf.kept hF (fsd (by omega))
  replace h_dk := h_dk.kept hF 3 rfl (fsd (by omega))
  replace h_se := h_se.kept hF 5 rfl (fsd (by omega))
  replace h_pg := h_pg.kept hF 1 rfl (fsd (by omega))
  replace h_sb := h_sb.kept hF 1 rfl (fsd (by omega))
  replace h_sa := h_sa.kept hF 1 rfl (fsd (by omega))
  replace h_pr := h_pr.kept hF 10 rfl (fsd (by omega))
  replace h_ln := h_ln.kept hF 1 rfl (fsd (by omega))
  replace h_la := h_la.kept hF 1 rfl (fsd (by omega))
  replace h_mo := h_mo.kept hF 5 rfl (fsd (by omega))
  replace h_out := h_out.kept hF 1 rfl (fsd (by omega))
  show V p l e room_1 s m args below meth cd Q 9 H1 lo1 kq nq 2894 [(5, .int (zI i)), (4, .ref (x + 340)), (3, .ref (x + 339)), (2, .ref (x + 334)), (1, .ref x), (0, .ref b)] [.int (zI 0)]
  refine v_istore X dL_law_2894 2896 rfl (by decide) (L' := [(6, .int (zI 0)), (5, .int (zI i)), (4, .ref (x + 340)), (3, .ref (x + 339)), (2, .ref (x + 334)), (1, .ref x), (0, .ref b)]) rfl ?_
  refine v_aload_n X dL_law_2896 2897 rfl 4 rfl ?_
  refine v_muV X hM (h_mo.1) (c_X10_meanCredibility l E (x + 334) mo co hO hR q0) kvX10_meanCredibility kiX10_meanCredibility kl_L_356 (q0 := 0) rfl rfl (As := []) rfl rfl (rm_law rfl (by omega) (by omega)) dL_law_2897 2900 rfl (k' := kq + 0) (n' := nq + 0) rfl rfl (fsI (fun q q1 q2 => (Or.inr (by omega)))) h_mo (fun rv H2 lo2 hM hF hpo => ?_)
  obtain ⟨rfl, hw_0⟩ := hpo
  have h_mo : PR E (x + 334) (modelW E (x + 334) (updC mo 0 (updZ (mo 0) 0 0))) H2 := hw_0
  replace hzl := Nat.le_trans hzl hF.1
  replace h_cm := h_cm.kept hF 1 rfl (fsd (by omega))
  replace h_co := h_co.kept hF 28 rfl (fsd (by omega))
  replace h_bf := h_bf.kept hF 28 rfl (fsd (by omega))
  replace h_sv := h_sv.kept hF 28 rfl (fsd (by omega))
  replace h_hi := h_hi.kept hF 2 rfl (fsd (by omega))
  replace h_hf := h_hf.kept hF (fsd (by omega))
  replace h_dk := h_dk.kept hF 3 rfl (fsd (by omega))
  replace h_se := h_se.kept hF 5 rfl (fsd (by omega))
  replace h_pg := h_pg.kept hF 1 rfl (fsd (by omega))
  replace h_sb := h_sb.kept hF 1 rfl (fsd (by omega))
  replace h_sa := h_sa.kept hF 1 rfl (fsd (by omega))
  replace h_pr := h_pr.kept hF 10 rfl (fsd (by omega))
  replace h_ln := h_ln.kept hF 1 rfl (fsd (by omega))
  replace h_la := h_la.kept hF 1 rfl (fsd (by omega))
  replace h_out := h_out.kept hF 1 rfl (fsd (by omega))
  replace h_outD := h_outD.kept hF 1 rfl (fsd (by omega))
  show V p l e room_1 s m args below meth cd Q 9 H2 lo2 kq nq 2900 [(6, .int (zI 0)), (5, .int (zI i)), (4, .ref (x + 340)), (3, .ref (x + 339)), (2, .ref (x + 334)), (1, .ref x), (0, .ref b)] [.double (dvD (sumZ (fun j => co 11 j) (co 0 1).toNat) (co 0 1))]
  refine v_dstore X dL_law_2900 2902 rfl (by decide) (L' := [(7, .double (dvD (sumZ (fun j => co 11 j) (co 0 1).toNat) (co 0 1))), (6, .int (zI 0)), (5, .int (zI i)), (4, .ref (x + 340)), (3, .ref (x + 339)), (2, .ref (x + 334)), (1, .ref x), (0, .ref b)]) rfl ?_
  refine v_aload_n X dL_law_2902 2903 rfl 5 rfl ?_
  refine v_rdV X hM.C h_mo.1 (c_X10_thrown l E (x + 334) (updC mo 0 (updZ (mo 0) 0 0))) kvX10_thrown kiX10_thrown kl_L_196 rfl rfl (As := []) rfl rfl (rm_law0 rfl (by omega) (by omega)) dL_law_2903 2906 rfl ?_
  show V p l e room_1 s m args below meth cd Q 9 H2 lo2 kq nq 2906 [(7, .double (dvD (sumZ (fun j => co 11 j) (co 0 1).toNat) (co 0 1))), (6, .int (zI 0)), (5, .int (zI i)), (4, .ref (x + 340)), (3, .ref (x + 339)), (2, .ref (x + 334)), (1, .ref x), (0, .ref b)] [.int (zI 0)]
  refine v_iload X dL_law_2906 2908 rfl 1 rfl ?_
  refine v_icmp_eq X (by omega) (by omega) dL_law_2908 2911 2913 rfl (by decide) (fun c_3 => ?_) (fun c_3 => ?_)
  · skip
    refine v_iload X dL_law_2913 2915 rfl 1 rfl ?_
    refine v_if_ne X (by omega) dL_law_2915 2918 2950 rfl (by decide) (fun c_4 => ?_) (fun c_4 => ?_)
    · skip
      exfalso; omega
    · skip
      refine v_aload X dL_law_2918 2920 rfl 3 rfl ?_
      refine v_iconst X dL_law_2920 2921 rfl ?_
      refine v_dald X hM.C h_outD.1 0 rfl dL_law_2921 2922 rfl ?_
      show V p l e room_1 s m args below meth cd Q 9 H2 lo2 kq nq 2922 [(7, .double (dvD (sumZ (fun j => co 11 j) (co 0 1).toNat) (co 0 1))), (6, .int (zI 0)), (5, .int (zI i)), (4, .ref (x + 340)), (3, .ref (x + 339)), (2, .ref (x + 334)), (1, .ref x), (0, .ref b)] [.double (dvD (sumZ (fun j => co 11 j) (co 0 1).toNat) (co 0 1))]
      refine v_dload X dL_law_2922 2924 rfl 0 rfl ?_
      refine v_dcmp0 X (dvD_ok (by omega) (by omega) (by omega) (by omega)).2 dL_law_2924 2925 rfl ?_
      refine v_if_eq X (by omega) dL_law_2925 2928 2950 rfl (by decide) (fun c_5 => ?_) (fun c_5 => ?_)
      · skip
        refine v_goto X dL_law_2950 3555 (by decide) ?_
        refine v_widen (k' := kq + 60) (n' := nq + 4000) (by omega) (by omega) ?_
        exact V_pick [2, 3, 4, 5, 6, 7] rfl (kk _ _ hM ⟨hzl, _, _, _, _, _, _, _, _, _, _, _, _, _, _, _, _, _, _, _, _, _, _, _, _, _, _, _, _, ⟨h_cm, h_co, h_bf, h_sv, h_hi, h_hf, h_dk, h_se, h_pg, h_sb, h_sa, h_pr, h_ln, h_la, h_mo, h_out, h_outD⟩, hP0.mo_0⟩)
      · skip
        exfalso; omega
  · skip
    exfalso; omega
set_option maxHeartbeats 4000000 in
set_option maxRecDepth 20000 in
theorem lo_meanCredibility_1 (hl : l.stackTraces = false) (X : CF p m cd code 9 s args RL) (hX : va_X b Lx xs s s.heap) (hbl : b < s.heap.size) (hLx : Lx ≤ 2560) (hM : MS E [] s H lo) (hk : kq + 60 ≤ 603072) (hn : nq + 4000 ≤ 7211113) (hx : s.heap.size ≤ x) (hzl : x + 341 ≤ H.size) {v : Nat} {N : Nat} {f : Int → Int} {nn : Int} {v2 : Nat} {N2 : Nat} {f2 : Int → Int} {n2 : Int} {co : Nat → Int → Int} {bf : Nat → Int → Int} {cv : Nat → Int → Int} {hc : Nat → Nat → Int → Int} {nx : Int} {sz : Int} {hs : Int} {er : Int} {fa : Int} {ss : Int} {dk : Nat → Int → Int} {se : Nat → Int → Int} {po : Int} {si : Int} {pr : Nat → Int → Int} {ml : Int} {ml2 : Int} {mo : Nat → Int → Int} {lg : Nat → Int64} {dg : Nat → UInt64} (hW : LawW E x v N f nn v2 N2 f2 n2 co bf cv hc nx sz hs er fa ss dk se po si pr ml ml2 mo lg dg H) (hP : LawP x v N f nn v2 N2 f2 n2 co cv hc nx sz hs er fa ss po si pr mo) (i0 : 0 ≤ i) (i1 : i + 5 ≤ (Lx : Int)) (q0 : ¬ (¬ co 0 1 = 0)) (kk : ∀ (H1 : Heap) (lo1 : List Loc), MS E [] s H1 lo1 → LawI E x H1 → V p l e room_1 s m args below meth cd Q 9 H1 lo1 (kq + 60) (nq + 4000) 3555 [(5, .int (zI i)), (4, .ref (x + 340)), (3, .ref (x + 339)), (2, .ref (x + 334)), (1, .ref x), (0, .ref b)] []) : V p l e room_1 s m args below meth cd Q 9 H lo kq nq 2888 [(5, .int (zI i)), (4, .ref (x + 340)), (3, .ref (x + 339)), (2, .ref (x + 334)), (1, .ref x), (0, .ref b)] [] := by
  obtain ⟨h_cm, h_co, h_bf, h_sv, h_hi, h_hf, h_dk, h_se, h_pg, h_sb, h_sa, h_pr, h_ln, h_la, h_mo, h_out, h_outD⟩ := hW
  have hP0 := hP
  obtain ⟨⟨hD, hDv, hDh⟩, ⟨hRM, hch, hcs⟩, ⟨⟨n0, n1⟩, ⟨s0, s1⟩, hhs⟩, ⟨hm8, hnn, hAg, hNN, hnN, hf9⟩, ⟨T, hSB, hLT, hn38⟩, hPB, ⟨her, hfa, hss, ger, gfa, gss, gms⟩, ⟨gpo, gsi⟩, ⟨hv1, hv2, hvv⟩⟩ := hP
  have hO := hD.inv.ok
  have hI := hD.inv.ts
  have hSt := hD.inv.st
  have hS := hD.inv.sn
  have hR := hRM.1.2
  have hG := gp_inv hD
  have hb0 := hO.b0
  have hbw := hO.bw
  have hbf : ¬ Fr [] s.heap.size b := fun z => z.elim (fun q => q.elim) (fun q => by omega)
  refine v_aload_n X dL_law_2888 2889 rfl 4 rfl ?_
  refine v_aload X dL_law_2889 2891 rfl 1 rfl ?_
  refine v_mwS X hM (w_X9_meanCredibility_0_t l hl E x co hs er fa ss (x + 340) dg hO q0) kwL_meanCredibility ksL_meanCredibility kl_L_353 (As := [.ref x, .ref (x + 340)]) rfl rfl (rm_lawW rfl (by omega) (by omega)) dL_law_2891 2894 rfl (k' := kq + 1) (n' := nq + 6) rfl rfl (fun q hq => hq.elim) ⟨h_cm, h_co, h_outD⟩ (fun rv H1 lo1 hM hF hpo => ?_)
  subst hpo
  replace hzl := Nat.le_trans hzl hF.1
  replace h_cm := h_cm.kept hF 1 rfl (fun q _ _ h => h.elim)
  replace h_co := h_co.kept hF 28 rfl (fun q _ _ h => h.elim)
  replace h_bf := h_bf.kept hF 28 rfl (fun q _ _ h => h.elim)
  replace h_sv := h_sv.kept hF 28 rfl (fun q _ _ h => h.elim)
  replace h_hi := h_hi.kept hF 2 rfl (fun q _ _ h => h.elim)
  replace h_hf := h_hf.kept hF (fun q _ _ h => h.elim)
  replace h_dk := h_dk.kept hF 3 rfl (fun q _ _ h => h.elim)
  replace h_se := h_se.kept hF 5 rfl (fun q _ _ h => h.elim)
  replace h_pg := h_pg.kept hF 1 rfl (fun q _ _ h => h.elim)
  replace h_sb := h_sb.kept hF 1 rfl (fun q _ _ h => h.elim)
  replace h_sa := h_sa.kept hF 1 rfl (fun q _ _ h => h.elim)
  replace h_pr := h_pr.kept hF 10 rfl (fun q _ _ h => h.elim)
  replace h_ln := h_ln.kept hF 1 rfl (fun q _ _ h => h.elim)
  replace h_la := h_la.kept hF 1 rfl (fun q _ _ h => h.elim)
  replace h_mo := h_mo.kept hF 5 rfl (fun q _ _ h => h.elim)
  replace h_out := h_out.kept hF 1 rfl (fun q _ _ h => h.elim)
  replace h_outD := h_outD.kept hF 1 rfl (fun q _ _ h => h.elim)
  show V p l e room_1 s m args below meth cd Q 9 H1 lo1 (kq + 1) (nq + 6) 2894 [(5, .int (zI i)), (4, .ref (x + 340)), (3, .ref (x + 339)), (2, .ref (x + 334)), (1, .ref x), (0, .ref b)] [.int (zI 1)]
  refine v_istore X dL_law_2894 2896 rfl (by decide) (L' := [(6, .int (zI 1)), (5, .int (zI i)), (4, .ref (x + 340)), (3, .ref (x + 339)), (2, .ref (x + 334)), (1, .ref x), (0, .ref b)]) rfl ?_
  refine v_aload_n X dL_law_2896 2897 rfl 4 rfl ?_
  refine v_muV X hM (h_mo.1) (c_X10_meanCredibility_0 l E (x + 334) mo co hO hR q0) kvX10_meanCredibility kiX10_meanCredibility kl_L_356 (q0 := 0) rfl rfl (As := []) rfl rfl (rm_law rfl (by omega) (by omega)) dL_law_2897 2900 rfl (k' := kq + 1) (n' := nq + 6) rfl rfl (fsI (fun q q1 q2 => (Or.inr (by omega)))) h_mo (fun rv H2 lo2 hM hF hpo => ?_)
  obtain ⟨rfl, hw_0⟩ := hpo
  have h_mo : PR E (x + 334) (modelW E (x + 334) (updC mo 0 (updZ (mo 0) 0 1))) H2 := hw_0
  replace hzl := Nat.le_trans hzl hF.1
  replace h_cm := h_cm.kept hF 1 rfl (fsd (by omega))
  replace h_co := h_co.kept hF 28 rfl (fsd (by omega))
  replace h_bf := h_bf.kept hF 28 rfl (fsd (by omega))
  replace h_sv := h_sv.kept hF 28 rfl (fsd (by omega))
  replace h_hi := h_hi.kept hF 2 rfl (fsd (by omega))
  replace h_hf := h_hf.kept hF (fsd (by omega))
  replace h_dk := h_dk.kept hF 3 rfl (fsd (by omega))
  replace h_se := h_se.kept hF 5 rfl (fsd (by omega))
  replace h_pg := h_pg.kept hF 1 rfl (fsd (by omega))
  replace h_sb := h_sb.kept hF 1 rfl (fsd (by omega))
  replace h_sa := h_sa.kept hF 1 rfl (fsd (by omega))
  replace h_pr := h_pr.kept hF 10 rfl (fsd (by omega))
  replace h_ln := h_ln.kept hF 1 rfl (fsd (by omega))
  replace h_la := h_la.kept hF 1 rfl (fsd (by omega))
  replace h_out := h_out.kept hF 1 rfl (fsd (by omega))
  replace h_outD := h_outD.kept hF 1 rfl (fsd (by omega))
  show V p l e room_1 s m args below meth cd Q 9 H2 lo2 (kq + 1) (nq + 6) 2900 [(6, .int (zI 1)), (5, .int (zI i)), (4, .ref (x + 340)), (3, .ref (x + 339)), (2, .ref (x + 334)), (1, .ref x), (0, .ref b)] [.double FP.dconst0]
  refine v_dstore X dL_law_2900 2902 rfl (by decide) (L' := [(7, .double FP.dconst0), (6, .int (zI 1)), (5, .int (zI i)), (4, .ref (x + 340)), (3, .ref (x + 339)), (2, .ref (x + 334)), (1, .ref x), (0, .ref b)]) rfl ?_
  refine v_aload_n X dL_law_2902 2903 rfl 5 rfl ?_
  refine v_rdV X hM.C h_mo.1 (c_X10_thrown l E (x + 334) (updC mo 0 (updZ (mo 0) 0 1))) kvX10_thrown kiX10_thrown kl_L_196 rfl rfl (As := []) rfl rfl (rm_law0 rfl (by omega) (by omega)) dL_law_2903 2906 rfl ?_
  show V p l e room_1 s m args below meth cd Q 9 H2 lo2 (kq + 1) (nq + 6) 2906 [(7, .double FP.dconst0), (6, .int (zI 1)), (5, .int (zI i)), (4, .ref (x + 340)), (3, .ref (x + 339)), (2, .ref (x + 334)), (1, .ref x), (0, .ref b)] [.int (zI 1)]
  refine v_iload X dL_law_2906 2908 rfl 1 rfl ?_
  refine v_icmp_eq X (by omega) (by omega) dL_law_2908 2911 2913 rfl (by decide) (fun c_3 => ?_) (fun c_3 => ?_)
  · skip
    refine v_iload X dL_law_2913 2915 rfl 1 rfl ?_
    refine v_if_ne X (by omega) dL_law_2915 2918 2950 rfl (by decide) (fun c_4 => ?_) (fun c_4 => ?_)
    · skip
      refine v_goto X dL_law_2950 3555 (by decide) ?_
      refine v_widen (k' := kq + 60) (n' := nq + 4000) (by omega) (by omega) ?_
      exact V_pick [2, 3, 4, 5, 6, 7] rfl (kk _ _ hM ⟨hzl, _, _, _, _, _, _, _, _, _, _, _, _, _, _, _, _, _, _, _, _, _, _, _, _, _, _, _, _, ⟨h_cm, h_co, h_bf, h_sv, h_hi, h_hf, h_dk, h_se, h_pg, h_sb, h_sa, h_pr, h_ln, h_la, h_mo, h_out, h_outD⟩, hP0.mo_0⟩)
    · skip
      exfalso; omega
  · skip
    exfalso; omega
set_option maxHeartbeats 4000000 in
set_option maxRecDepth 20000 in
theorem lo_guiltyShare (hl : l.stackTraces = false) (X : CF p m cd code 9 s args RL) (hX : va_X b Lx xs s s.heap) (hbl : b < s.heap.size) (hLx : Lx ≤ 2560) (hM : MS E [] s H lo) (hk : kq + 60 ≤ 603072) (hn : nq + 4000 ≤ 7211113) (hx : s.heap.size ≤ x) (hzl : x + 341 ≤ H.size) {v : Nat} {N : Nat} {f : Int → Int} {nn : Int} {v2 : Nat} {N2 : Nat} {f2 : Int → Int} {n2 : Int} {co : Nat → Int → Int} {bf : Nat → Int → Int} {cv : Nat → Int → Int} {hc : Nat → Nat → Int → Int} {nx : Int} {sz : Int} {hs : Int} {er : Int} {fa : Int} {ss : Int} {dk : Nat → Int → Int} {se : Nat → Int → Int} {po : Int} {si : Int} {pr : Nat → Int → Int} {ml : Int} {ml2 : Int} {mo : Nat → Int → Int} {lg : Nat → Int64} {dg : Nat → UInt64} (hW : LawW E x v N f nn v2 N2 f2 n2 co bf cv hc nx sz hs er fa ss dk se po si pr ml ml2 mo lg dg H) (hP : LawP x v N f nn v2 N2 f2 n2 co cv hc nx sz hs er fa ss po si pr mo) (i0 : 0 ≤ i) (i1 : i + 5 ≤ (Lx : Int)) (q0 : ¬ sumZ (fun j => bz (co 3 j = 1)) (co 0 0).toNat + sumZ (fun j => bz (co 3 j = 2)) (co 0 0).toNat = 0) (kk : ∀ (H1 : Heap) (lo1 : List Loc), MS E [] s H1 lo1 → LawI E x H1 → V p l e room_1 s m args below meth cd Q 9 H1 lo1 (kq + 60) (nq + 4000) 3555 [(5, .int (zI i)), (4, .ref (x + 340)), (3, .ref (x + 339)), (2, .ref (x + 334)), (1, .ref x), (0, .ref b)] []) : V p l e room_1 s m args below meth cd Q 9 H lo kq nq 2953 [(5, .int (zI i)), (4, .ref (x + 340)), (3, .ref (x + 339)), (2, .ref (x + 334)), (1, .ref x), (0, .ref b)] [] := by
  obtain ⟨h_cm, h_co, h_bf, h_sv, h_hi, h_hf, h_dk, h_se, h_pg, h_sb, h_sa, h_pr, h_ln, h_la, h_mo, h_out, h_outD⟩ := hW
  have hP0 := hP
  obtain ⟨⟨hD, hDv, hDh⟩, ⟨hRM, hch, hcs⟩, ⟨⟨n0, n1⟩, ⟨s0, s1⟩, hhs⟩, ⟨hm8, hnn, hAg, hNN, hnN, hf9⟩, ⟨T, hSB, hLT, hn38⟩, hPB, ⟨her, hfa, hss, ger, gfa, gss, gms⟩, ⟨gpo, gsi⟩, ⟨hv1, hv2, hvv⟩⟩ := hP
  have hO := hD.inv.ok
  have hI := hD.inv.ts
  have hSt := hD.inv.st
  have hS := hD.inv.sn
  have hR := hRM.1.2
  have hG := gp_inv hD
  have hb0 := hO.b0
  have hbw := hO.bw
  have hbf : ¬ Fr [] s.heap.size b := fun z => z.elim (fun q => q.elim) (fun q => by omega)
  have hs1 := sumZ_b (f := fun j => bz (¬ co 4 j = 0)) (lo := 0) (hi := 1) (n := (co 0 0).toNat) (fun _ _ _ => bz_rg)
  have hs2 := sumZ_b (f := fun j => bz (co 3 j = 1)) (lo := 0) (hi := 1) (n := (co 0 0).toNat) (fun _ _ _ => bz_rg)
  have hs3 := sumZ_b (f := fun j => bz (co 3 j = 2)) (lo := 0) (hi := 1) (n := (co 0 0).toNat) (fun _ _ _ => bz_rg)
  refine v_aload_n X dL_law_2953 2954 rfl 4 rfl ?_
  refine v_aload X dL_law_2954 2956 rfl 1 rfl ?_
  refine v_mwS X hM (w_X9_guiltyShare l hl E x co hs er fa ss (x + 340) dg hO q0 (by omega) (by omega)) kwL_guiltyShare ksL_guiltyShare kl_L_357 (As := [.ref x, .ref (x + 340)]) rfl rfl (rm_lawW rfl (by omega) (by omega)) dL_law_2956 2959 rfl (k' := kq + 0) (n' := nq + 0) rfl rfl (fsI (fun q q1 q2 => (Or.inr (by omega)))) ⟨h_cm, h_co, h_outD⟩ (fun rv H1 lo1 hM hF hpo => ?_)
  obtain ⟨rfl, hw_0⟩ := hpo
  have h_outD : PR E (x + 340) [(x + 340, .inl (E 102 5, 1, .inr (.inr (.inr (.inl (fun _ => FP.f2d (fvD (sumZ (fun j => bz (¬ co 4 j = 0)) (co 0 0).toNat) (sumZ (fun j => bz (co 3 j = 1)) (co 0 0).toNat + sumZ (fun j => bz (co 3 j = 2)) (co 0 0).toNat))))))))] H1 := hw_0
  replace hzl := Nat.le_trans hzl hF.1
  replace h_cm := h_cm.kept hF 1 rfl (fsd (by omega))
  replace h_co := h_co.kept hF 28 rfl (fsd (by omega))
  replace h_bf := h_bf.kept hF 28 rfl (fsd (by omega))
  replace h_sv := h_sv.kept hF 28 rfl (fsd (by omega))
  replace h_hi := h_hi.kept hF 2 rfl (fsd (by omega))
  replace h_hf := h_hf.kept hF (fsd (by omega))
  replace h_dk := h_dk.kept hF 3 rfl (fsd (by omega))
  replace h_se := h_se.kept hF 5 rfl (fsd (by omega))
  replace h_pg := h_pg.kept hF 1 rfl (fsd (by omega))
  replace h_sb := h_sb.kept hF 1 rfl (fsd (by omega))
  replace h_sa := h_sa.kept hF 1 rfl (fsd (by omega))
  replace h_pr := h_pr.kept hF 10 rfl (fsd (by omega))
  replace h_ln := h_ln.kept hF 1 rfl (fsd (by omega))
  replace h_la := h_la.kept hF 1 rfl (fsd (by omega))
  replace h_mo := h_mo.kept hF 5 rfl (fsd (by omega))
  replace h_out := h_out.kept hF 1 rfl (fsd (by omega))
  show V p l e room_1 s m args below meth cd Q 9 H1 lo1 kq nq 2959 [(5, .int (zI i)), (4, .ref (x + 340)), (3, .ref (x + 339)), (2, .ref (x + 334)), (1, .ref x), (0, .ref b)] [.int (zI 0)]
  refine v_istore X dL_law_2959 2961 rfl (by decide) (L' := [(6, .int (zI 0)), (5, .int (zI i)), (4, .ref (x + 340)), (3, .ref (x + 339)), (2, .ref (x + 334)), (1, .ref x), (0, .ref b)]) rfl ?_
  refine v_aload_n X dL_law_2961 2962 rfl 4 rfl ?_
  refine v_muV X hM (h_mo.1) (c_X10_guiltyShare l E (x + 334) mo co hO hR hSt q0) kvX10_guiltyShare kiX10_guiltyShare kl_L_359 (q0 := 0) rfl rfl (As := []) rfl rfl (rm_law rfl (by omega) (by omega)) dL_law_2962 2965 rfl (k' := kq + 0) (n' := nq + 0) rfl rfl (fsI (fun q q1 q2 => (Or.inr (by omega)))) h_mo (fun rv H2 lo2 hM hF hpo => ?_)
  obtain ⟨rfl, hw_0⟩ := hpo
  have h_mo : PR E (x + 334) (modelW E (x + 334) (updC mo 0 (updZ (mo 0) 0 0))) H2 := hw_0
  replace hzl := Nat.le_trans hzl hF.1
  replace h_cm := h_cm.kept hF 1 rfl (fsd (by omega))
  replace h_co := h_co.kept hF 28 rfl (fsd (by omega))
  replace h_bf := h_bf.kept hF 28 rfl (fsd (by omega))
  replace h_sv := h_sv.kept hF 28 rfl (fsd (by omega))
  replace h_hi := h_hi.kept hF 2 rfl (fsd (by omega))
  replace h_hf := h_hf.kept hF (fsd (by omega))
  replace h_dk := h_dk.kept hF 3 rfl (fsd (by omega))
  replace h_se := h_se.kept hF 5 rfl (fsd (by omega))
  replace h_pg := h_pg.kept hF 1 rfl (fsd (by omega))
  replace h_sb := h_sb.kept hF 1 rfl (fsd (by omega))
  replace h_sa := h_sa.kept hF 1 rfl (fsd (by omega))
  replace h_pr := h_pr.kept hF 10 rfl (fsd (by omega))
  replace h_ln := h_ln.kept hF 1 rfl (fsd (by omega))
  replace h_la := h_la.kept hF 1 rfl (fsd (by omega))
  replace h_out := h_out.kept hF 1 rfl (fsd (by omega))
  replace h_outD := h_outD.kept hF 1 rfl (fsd (by omega))
  show V p l e room_1 s m args below meth cd Q 9 H2 lo2 kq nq 2965 [(6, .int (zI 0)), (5, .int (zI i)), (4, .ref (x + 340)), (3, .ref (x + 339)), (2, .ref (x + 334)), (1, .ref x), (0, .ref b)] [.float (fvD (sumZ (fun j => bz (¬ co 4 j = 0)) (co 0 0).toNat) (sumZ (fun j => bz (co 3 j = 1)) (co 0 0).toNat + sumZ (fun j => bz (co 3 j = 2)) (co 0 0).toNat))]
  refine v_fstore X dL_law_2965 2967 rfl (by decide) (L' := [(7, .float (fvD (sumZ (fun j => bz (¬ co 4 j = 0)) (co 0 0).toNat) (sumZ (fun j => bz (co 3 j = 1)) (co 0 0).toNat + sumZ (fun j => bz (co 3 j = 2)) (co 0 0).toNat))), (6, .int (zI 0)), (5, .int (zI i)), (4, .ref (x + 340)), (3, .ref (x + 339)), (2, .ref (x + 334)), (1, .ref x), (0, .ref b)]) rfl ?_
  refine v_aload_n X dL_law_2967 2968 rfl 5 rfl ?_
  refine v_rdV X hM.C h_mo.1 (c_X10_thrown l E (x + 334) (updC mo 0 (updZ (mo 0) 0 0))) kvX10_thrown kiX10_thrown kl_L_196 rfl rfl (As := []) rfl rfl (rm_law0 rfl (by omega) (by omega)) dL_law_2968 2971 rfl ?_
  show V p l e room_1 s m args below meth cd Q 9 H2 lo2 kq nq 2971 [(7, .float (fvD (sumZ (fun j => bz (¬ co 4 j = 0)) (co 0 0).toNat) (sumZ (fun j => bz (co 3 j = 1)) (co 0 0).toNat + sumZ (fun j => bz (co 3 j = 2)) (co 0 0).toNat))), (6, .int (zI 0)), (5, .int (zI i)), (4, .ref (x + 340)), (3, .ref (x + 339)), (2, .ref (x + 334)), (1, .ref x), (0, .ref b)] [.int (zI 0)]
  refine v_iload X dL_law_2971 2973 rfl 1 rfl ?_
  refine v_icmp_eq X (by omega) (by omega) dL_law_2973 2976 2978 rfl (by decide) (fun c_3 => ?_) (fun c_3 => ?_)
  · skip
    refine v_iload X dL_law_2978 2980 rfl 1 rfl ?_
    refine v_if_ne X (by omega) dL_law_2980 2983 3016 rfl (by decide) (fun c_4 => ?_) (fun c_4 => ?_)
    · skip
      exfalso; omega
    · skip
      refine v_aload X dL_law_2983 2985 rfl 3 rfl ?_
      refine v_iconst X dL_law_2985 2986 rfl ?_
      refine v_dald X hM.C h_outD.1 0 rfl dL_law_2986 2987 rfl ?_
      show V p l e room_1 s m args below meth cd Q 9 H2 lo2 kq nq 2987 [(7, .float (fvD (sumZ (fun j => bz (¬ co 4 j = 0)) (co 0 0).toNat) (sumZ (fun j => bz (co 3 j = 1)) (co 0 0).toNat + sumZ (fun j => bz (co 3 j = 2)) (co 0 0).toNat))), (6, .int (zI 0)), (5, .int (zI i)), (4, .ref (x + 340)), (3, .ref (x + 339)), (2, .ref (x + 334)), (1, .ref x), (0, .ref b)] [.double (FP.f2d (fvD (sumZ (fun j => bz (¬ co 4 j = 0)) (co 0 0).toNat) (sumZ (fun j => bz (co 3 j = 1)) (co 0 0).toNat + sumZ (fun j => bz (co 3 j = 2)) (co 0 0).toNat)))]
      refine v_fload X dL_law_2987 2989 rfl 0 rfl ?_
      refine v_f2d X (fvD_ok (by omega) (by omega) (by omega) (by omega)).2.1 dL_law_2989 2990 rfl ?_
      refine v_dcmp0 X (fvD_ok (by omega) (by omega) (by omega) (by omega)).2.2 dL_law_2990 2991 rfl ?_
      refine v_if_eq X (by omega) dL_law_2991 2994 3016 rfl (by decide) (fun c_5 => ?_) (fun c_5 => ?_)
      · skip
        refine v_goto X dL_law_3016 3555 (by decide) ?_
        refine v_widen (k' := kq + 60) (n' := nq + 4000) (by omega) (by omega) ?_
        exact V_pick [2, 3, 4, 5, 6, 7] rfl (kk _ _ hM ⟨hzl, _, _, _, _, _, _, _, _, _, _, _, _, _, _, _, _, _, _, _, _, _, _, _, _, _, _, _, _, ⟨h_cm, h_co, h_bf, h_sv, h_hi, h_hf, h_dk, h_se, h_pg, h_sb, h_sa, h_pr, h_ln, h_la, h_mo, h_out, h_outD⟩, hP0.mo_0⟩)
      · skip
        exfalso; omega
  · skip
    exfalso; omega
set_option maxHeartbeats 4000000 in
set_option maxRecDepth 20000 in
theorem lo_guiltyShare_1 (hl : l.stackTraces = false) (X : CF p m cd code 9 s args RL) (hX : va_X b Lx xs s s.heap) (hbl : b < s.heap.size) (hLx : Lx ≤ 2560) (hM : MS E [] s H lo) (hk : kq + 60 ≤ 603072) (hn : nq + 4000 ≤ 7211113) (hx : s.heap.size ≤ x) (hzl : x + 341 ≤ H.size) {v : Nat} {N : Nat} {f : Int → Int} {nn : Int} {v2 : Nat} {N2 : Nat} {f2 : Int → Int} {n2 : Int} {co : Nat → Int → Int} {bf : Nat → Int → Int} {cv : Nat → Int → Int} {hc : Nat → Nat → Int → Int} {nx : Int} {sz : Int} {hs : Int} {er : Int} {fa : Int} {ss : Int} {dk : Nat → Int → Int} {se : Nat → Int → Int} {po : Int} {si : Int} {pr : Nat → Int → Int} {ml : Int} {ml2 : Int} {mo : Nat → Int → Int} {lg : Nat → Int64} {dg : Nat → UInt64} (hW : LawW E x v N f nn v2 N2 f2 n2 co bf cv hc nx sz hs er fa ss dk se po si pr ml ml2 mo lg dg H) (hP : LawP x v N f nn v2 N2 f2 n2 co cv hc nx sz hs er fa ss po si pr mo) (i0 : 0 ≤ i) (i1 : i + 5 ≤ (Lx : Int)) (q0 : ¬ (¬ sumZ (fun j => bz (co 3 j = 1)) (co 0 0).toNat + sumZ (fun j => bz (co 3 j = 2)) (co 0 0).toNat = 0)) (kk : ∀ (H1 : Heap) (lo1 : List Loc), MS E [] s H1 lo1 → LawI E x H1 → V p l e room_1 s m args below meth cd Q 9 H1 lo1 (kq + 60) (nq + 4000) 3555 [(5, .int (zI i)), (4, .ref (x + 340)), (3, .ref (x + 339)), (2, .ref (x + 334)), (1, .ref x), (0, .ref b)] []) : V p l e room_1 s m args below meth cd Q 9 H lo kq nq 2953 [(5, .int (zI i)), (4, .ref (x + 340)), (3, .ref (x + 339)), (2, .ref (x + 334)), (1, .ref x), (0, .ref b)] [] := by
  obtain ⟨h_cm, h_co, h_bf, h_sv, h_hi, h_hf, h_dk, h_se, h_pg, h_sb, h_sa, h_pr, h_ln, h_la, h_mo, h_out, h_outD⟩ := hW
  have hP0 := hP
  obtain ⟨⟨hD, hDv, hDh⟩, ⟨hRM, hch, hcs⟩, ⟨⟨n0, n1⟩, ⟨s0, s1⟩, hhs⟩, ⟨hm8, hnn, hAg, hNN, hnN, hf9⟩, ⟨T, hSB, hLT, hn38⟩, hPB, ⟨her, hfa, hss, ger, gfa, gss, gms⟩, ⟨gpo, gsi⟩, ⟨hv1, hv2, hvv⟩⟩ := hP
  have hO := hD.inv.ok
  have hI := hD.inv.ts
  have hSt := hD.inv.st
  have hS := hD.inv.sn
  have hR := hRM.1.2
  have hG := gp_inv hD
  have hb0 := hO.b0
  have hbw := hO.bw
  have hbf : ¬ Fr [] s.heap.size b := fun z => z.elim (fun q => q.elim) (fun q => by omega)
  refine v_aload_n X dL_law_2953 2954 rfl 4 rfl ?_
  refine v_aload X dL_law_2954 2956 rfl 1 rfl ?_
  refine v_mwS X hM (w_X9_guiltyShare_0_t l hl E x co hs er fa ss (x + 340) dg hO q0) kwL_guiltyShare ksL_guiltyShare kl_L_357 (As := [.ref x, .ref (x + 340)]) rfl rfl (rm_lawW rfl (by omega) (by omega)) dL_law_2956 2959 rfl (k' := kq + 1) (n' := nq + 6) rfl rfl (fun q hq => hq.elim) ⟨h_cm, h_co, h_outD⟩ (fun rv H1 lo1 hM hF hpo => ?_)
  subst hpo
  replace hzl := Nat.le_trans hzl hF.1
  replace h_cm := h_cm.kept hF 1 rfl (fun q _ _ h => h.elim)
  replace h_co := h_co.kept hF 28 rfl (fun q _ _ h => h.elim)
  replace h_bf := h_bf.kept hF 28 rfl (fun q _ _ h => h.elim)
  replace h_sv := h_sv.kept hF 28 rfl (fun q _ _ h => h.elim)
  replace h_hi := h_hi.kept hF 2 rfl (fun q _ _ h => h.elim)
  replace h_hf := h_hf.kept hF (fun q _ _ h => h.elim)
  replace h_dk := h_dk.kept hF 3 rfl (fun q _ _ h => h.elim)
  replace h_se := h_se.kept hF 5 rfl (fun q _ _ h => h.elim)
  replace h_pg := h_pg.kept hF 1 rfl (fun q _ _ h => h.elim)
  replace h_sb := h_sb.kept hF 1 rfl (fun q _ _ h => h.elim)
  replace h_sa := h_sa.kept hF 1 rfl (fun q _ _ h => h.elim)
  replace h_pr := h_pr.kept hF 10 rfl (fun q _ _ h => h.elim)
  replace h_ln := h_ln.kept hF 1 rfl (fun q _ _ h => h.elim)
  replace h_la := h_la.kept hF 1 rfl (fun q _ _ h => h.elim)
  replace h_mo := h_mo.kept hF 5 rfl (fun q _ _ h => h.elim)
  replace h_out := h_out.kept hF 1 rfl (fun q _ _ h => h.elim)
  replace h_outD := h_outD.kept hF 1 rfl (fun q _ _ h => h.elim)
  show V p l e room_1 s m args below meth cd Q 9 H1 lo1 (kq + 1) (nq + 6) 2959 [(5, .int (zI i)), (4, .ref (x + 340)), (3, .ref (x + 339)), (2, .ref (x + 334)), (1, .ref x), (0, .ref b)] [.int (zI 1)]
  refine v_istore X dL_law_2959 2961 rfl (by decide) (L' := [(6, .int (zI 1)), (5, .int (zI i)), (4, .ref (x + 340)), (3, .ref (x + 339)), (2, .ref (x + 334)), (1, .ref x), (0, .ref b)]) rfl ?_
  refine v_aload_n X dL_law_2961 2962 rfl 4 rfl ?_
  refine v_muV X hM (h_mo.1) (c_X10_guiltyShare_0 l E (x + 334) mo co hO hR hSt q0) kvX10_guiltyShare kiX10_guiltyShare kl_L_359 (q0 := 0) rfl rfl (As := []) rfl rfl (rm_law rfl (by omega) (by omega)) dL_law_2962 2965 rfl (k' := kq + 1) (n' := nq + 6) rfl rfl (fsI (fun q q1 q2 => (Or.inr (by omega)))) h_mo (fun rv H2 lo2 hM hF hpo => ?_)
  obtain ⟨rfl, hw_0⟩ := hpo
  have h_mo : PR E (x + 334) (modelW E (x + 334) (updC mo 0 (updZ (mo 0) 0 1))) H2 := hw_0
  replace hzl := Nat.le_trans hzl hF.1
  replace h_cm := h_cm.kept hF 1 rfl (fsd (by omega))
  replace h_co := h_co.kept hF 28 rfl (fsd (by omega))
  replace h_bf := h_bf.kept hF 28 rfl (fsd (by omega))
  replace h_sv := h_sv.kept hF 28 rfl (fsd (by omega))
  replace h_hi := h_hi.kept hF 2 rfl (fsd (by omega))
  replace h_hf := h_hf.kept hF (fsd (by omega))
  replace h_dk := h_dk.kept hF 3 rfl (fsd (by omega))
  replace h_se := h_se.kept hF 5 rfl (fsd (by omega))
  replace h_pg := h_pg.kept hF 1 rfl (fsd (by omega))
  replace h_sb := h_sb.kept hF 1 rfl (fsd (by omega))
  replace h_sa := h_sa.kept hF 1 rfl (fsd (by omega))
  replace h_pr := h_pr.kept hF 10 rfl (fsd (by omega))
  replace h_ln := h_ln.kept hF 1 rfl (fsd (by omega))
  replace h_la := h_la.kept hF 1 rfl (fsd (by omega))
  replace h_out := h_out.kept hF 1 rfl (fsd (by omega))
  replace h_outD := h_outD.kept hF 1 rfl (fsd (by omega))
  show V p l e room_1 s m args below meth cd Q 9 H2 lo2 (kq + 1) (nq + 6) 2965 [(6, .int (zI 1)), (5, .int (zI i)), (4, .ref (x + 340)), (3, .ref (x + 339)), (2, .ref (x + 334)), (1, .ref x), (0, .ref b)] [.float FP.fconst0]
  refine v_fstore X dL_law_2965 2967 rfl (by decide) (L' := [(7, .float FP.fconst0), (6, .int (zI 1)), (5, .int (zI i)), (4, .ref (x + 340)), (3, .ref (x + 339)), (2, .ref (x + 334)), (1, .ref x), (0, .ref b)]) rfl ?_
  refine v_aload_n X dL_law_2967 2968 rfl 5 rfl ?_
  refine v_rdV X hM.C h_mo.1 (c_X10_thrown l E (x + 334) (updC mo 0 (updZ (mo 0) 0 1))) kvX10_thrown kiX10_thrown kl_L_196 rfl rfl (As := []) rfl rfl (rm_law0 rfl (by omega) (by omega)) dL_law_2968 2971 rfl ?_
  show V p l e room_1 s m args below meth cd Q 9 H2 lo2 (kq + 1) (nq + 6) 2971 [(7, .float FP.fconst0), (6, .int (zI 1)), (5, .int (zI i)), (4, .ref (x + 340)), (3, .ref (x + 339)), (2, .ref (x + 334)), (1, .ref x), (0, .ref b)] [.int (zI 1)]
  refine v_iload X dL_law_2971 2973 rfl 1 rfl ?_
  refine v_icmp_eq X (by omega) (by omega) dL_law_2973 2976 2978 rfl (by decide) (fun c_3 => ?_) (fun c_3 => ?_)
  · skip
    refine v_iload X dL_law_2978 2980 rfl 1 rfl ?_
    refine v_if_ne X (by omega) dL_law_2980 2983 3016 rfl (by decide) (fun c_4 => ?_) (fun c_4 => ?_)
    · skip
      refine v_goto X dL_law_3016 3555 (by decide) ?_
      refine v_widen (k' := kq + 60) (n' := nq + 4000) (by omega) (by omega) ?_
      exact V_pick [2, 3, 4, 5, 6, 7] rfl (kk _ _ hM ⟨hzl, _, _, _, _, _, _, _, _, _, _, _, _, _, _, _, _, _, _, _, _, _, _, _, _, _, _, _, _, ⟨h_cm, h_co, h_bf, h_sv, h_hi, h_hf, h_dk, h_se, h_pg, h_sb, h_sa, h_pr, h_ln, h_la, h_mo, h_out, h_outD⟩, hP0.mo_0⟩)
    · skip
      exfalso; omega
  · skip
    exfalso; omega
set_option maxHeartbeats 4000000 in
set_option maxRecDepth 20000 in
theorem lo_formatCase (hl : l.stackTraces = false) (X : CF p m cd code 9 s args RL) (hX : va_X b Lx xs s s.heap) (hbl : b < s.heap.size) (hLx : Lx ≤ 2560) (hM : MS E [] s H lo) (hk : kq + 60 ≤ 603072) (hn : nq + 4000 ≤ 7211113) (hx : s.heap.size ≤ x) (hzl : x + 341 ≤ H.size) {v : Nat} {N : Nat} {f : Int → Int} {nn : Int} {v2 : Nat} {N2 : Nat} {f2 : Int → Int} {n2 : Int} {co : Nat → Int → Int} {bf : Nat → Int → Int} {cv : Nat → Int → Int} {hc : Nat → Nat → Int → Int} {nx : Int} {sz : Int} {hs : Int} {er : Int} {fa : Int} {ss : Int} {dk : Nat → Int → Int} {se : Nat → Int → Int} {po : Int} {si : Int} {pr : Nat → Int → Int} {ml : Int} {ml2 : Int} {mo : Nat → Int → Int} {lg : Nat → Int64} {dg : Nat → UInt64} (hW : LawW E x v N f nn v2 N2 f2 n2 co bf cv hc nx sz hs er fa ss dk se po si pr ml ml2 mo lg dg H) (hP : LawP x v N f nn v2 N2 f2 n2 co cv hc nx sz hs er fa ss po si pr mo) (i0 : 0 ≤ i) (i1 : i + 5 ≤ (Lx : Int)) {a1 : Int} (ha1 : (xs (i + 1).toNat).toInt = a1) (ga1 : Rg a1) (q0 : 0 ≤ a1 ∧ a1 < co 0 0) (kk : ∀ (H1 : Heap) (lo1 : List Loc), MS E [] s H1 lo1 → LawI E x H1 → V p l e room_1 s m args below meth cd Q 9 H1 lo1 (kq + 60) (nq + 4000) 3555 [(5, .int (zI i)), (4, .ref (x + 340)), (3, .ref (x + 339)), (2, .ref (x + 334)), (1, .ref x), (0, .ref b)] []) : V p l e room_1 s m args below meth cd Q 9 H lo kq nq 3032 [(5, .int (zI i)), (4, .ref (x + 340)), (3, .ref (x + 339)), (2, .ref (x + 334)), (1, .ref x), (0, .ref b)] [] := by
  obtain ⟨h_cm, h_co, h_bf, h_sv, h_hi, h_hf, h_dk, h_se, h_pg, h_sb, h_sa, h_pr, h_ln, h_la, h_mo, h_out, h_outD⟩ := hW
  have hP0 := hP
  obtain ⟨⟨hD, hDv, hDh⟩, ⟨hRM, hch, hcs⟩, ⟨⟨n0, n1⟩, ⟨s0, s1⟩, hhs⟩, ⟨hm8, hnn, hAg, hNN, hnN, hf9⟩, ⟨T, hSB, hLT, hn38⟩, hPB, ⟨her, hfa, hss, ger, gfa, gss, gms⟩, ⟨gpo, gsi⟩, ⟨hv1, hv2, hvv⟩⟩ := hP
  have hO := hD.inv.ok
  have hI := hD.inv.ts
  have hSt := hD.inv.st
  have hS := hD.inv.sn
  have hR := hRM.1.2
  have hG := gp_inv hD
  have hb0 := hO.b0
  have hbw := hO.bw
  have hbf : ¬ Fr [] s.heap.size b := fun z => z.elim (fun q => q.elim) (fun q => by omega)
  refine v_aload_n X dL_law_3032 3033 rfl 4 rfl ?_
  refine v_aload_n X dL_law_3033 3034 rfl 5 rfl ?_
  refine v_iload X dL_law_3034 3036 rfl 0 rfl ?_
  refine v_iconst X dL_law_3036 3037 rfl ?_
  refine v_iadd X dL_law_3037 3038 rfl ?_
  refine v_scr X hM hX hbl hbf (by omega) (by omega) hLx ha1 dL_law_3038 3039 rfl ?_
  refine v_aload_n X dL_law_3039 3040 rfl 2 rfl ?_
  have hzl9 := hzl
  have hvl : v < H.size := (h_sa.1 0 _ rfl).lt
  have hvl2 : v2 < H.size := (h_la.1 0 _ rfl).lt
  refine v_mwS X hM (w_X9_formatCase l hl E x co hs er fa ss v2 N2 f2 ml2 n2 a1 T H.size (x + 339) lg hO ga1 q0 (by omega) hSB (by omega) (by omega) (by omega) (by omega) (by omega) (by omega) (by omega) (by omega) (by omega) (by omega) (by omega)) kwL_formatCase ksL_formatCase kl_L_364 (As := [.ref x, .int (zI a1), .ref (x + 339)]) rfl rfl (rm_lawW rfl (by omega) (by omega)) dL_law_3040 3043 rfl (k' := kq + 37) (n' := nq + 2590) rfl rfl (by intro q hq; simp only [Fr, Fs, or_false, false_or] at hq ⊢; omega) ⟨h_cm, h_co, h_ln, h_la, h_out, (by omega)⟩ (fun rv H1 lo1 hM hF hpo => ?_)
  obtain ⟨v1_2, N1_3, f1_4, n1_5, ml1_6, rfl, hp_f_7, hp_f_8, hp_f_9, hw_0, hw_1, hw_2⟩ := hpo
  have h_ln : PR E (x + 332) [(x + 332, .inr (1, [.ref v1_2, .int (zI 0), .int (zI ml1_6), .int (zI n1_5)]))] H1 := hw_0
  have h_la : PR E v1_2 [(v1_2, .inl (E 102 2, N1_3, .inl (zA f1_4)))] H1 := hw_1
  have h_out : PR E (x + 339) [(x + 339, .inl (E 102 4, 1, .inr (.inl (fun _ => zL n1_5))))] H1 := hw_2
  replace hzl := Nat.le_trans hzl hF.1
  replace h_cm := h_cm.kept hF 1 rfl (by intro q q1 q2 q3; simp only [Fs, or_false] at q3; omega)
  replace h_co := h_co.kept hF 28 rfl (by intro q q1 q2 q3; simp only [Fs, or_false] at q3; omega)
  replace h_bf := h_bf.kept hF 28 rfl (by intro q q1 q2 q3; simp only [Fs, or_false] at q3; omega)
  replace h_sv := h_sv.kept hF 28 rfl (by intro q q1 q2 q3; simp only [Fs, or_false] at q3; omega)
  replace h_hi := h_hi.kept hF 2 rfl (by intro q q1 q2 q3; simp only [Fs, or_false] at q3; omega)
  replace h_hf := h_hf.kept hF (by intro q q1 q2 q3; simp only [Fs, or_false] at q3; omega)
  replace h_dk := h_dk.kept hF 3 rfl (by intro q q1 q2 q3; simp only [Fs, or_false] at q3; omega)
  replace h_se := h_se.kept hF 5 rfl (by intro q q1 q2 q3; simp only [Fs, or_false] at q3; omega)
  replace h_pg := h_pg.kept hF 1 rfl (by intro q q1 q2 q3; simp only [Fs, or_false] at q3; omega)
  replace h_sb := h_sb.kept hF 1 rfl (by intro q q1 q2 q3; simp only [Fs, or_false] at q3; omega)
  replace h_sa := h_sa.kept hF 1 rfl (by intro q q1 q2 q3; simp only [Fs, or_false] at q3; omega)
  replace h_pr := h_pr.kept hF 10 rfl (by intro q q1 q2 q3; simp only [Fs, or_false] at q3; omega)
  replace h_mo := h_mo.kept hF 5 rfl (by intro q q1 q2 q3; simp only [Fs, or_false] at q3; omega)
  replace h_outD := h_outD.kept hF 1 rfl (by intro q q1 q2 q3; simp only [Fs, or_false] at q3; omega)
  show V p l e room_1 s m args below meth cd Q 9 H1 lo1 (kq + 37) (nq + 2590) 3043 [(5, .int (zI i)), (4, .ref (x + 340)), (3, .ref (x + 339)), (2, .ref (x + 334)), (1, .ref x), (0, .ref b)] [.int (zI 0)]
  refine v_istore X dL_law_3043 3045 rfl (by decide) (L' := [(6, .int (zI 0)), (5, .int (zI i)), (4, .ref (x + 340)), (3, .ref (x + 339)), (2, .ref (x + 334)), (1, .ref x), (0, .ref b)]) rfl ?_
  refine v_aload_n X dL_law_3045 3046 rfl 4 rfl ?_
  refine v_aload_n X dL_law_3046 3047 rfl 6 rfl ?_
  refine v_iload X dL_law_3047 3049 rfl 1 rfl ?_
  refine v_iconst X dL_law_3049 3050 rfl ?_
  refine v_iadd X dL_law_3050 3051 rfl ?_
  refine v_scr X hM hX hbl hbf (by omega) (by omega) hLx ha1 dL_law_3051 3052 rfl ?_
  refine v_muV X hM (h_mo.1) (c_X10_formatCase l E (x + 334) mo co a1 hO hR hI ga1 q0) kvX10_formatCase kiX10_formatCase kl_L_366 (q0 := 0) rfl rfl (As := [.int (zI a1)]) rfl rfl (rm_law rfl (by omega) (by omega)) dL_law_3052 3055 rfl (k' := kq + 37) (n' := nq + 2590) rfl rfl (fsI (fun q q1 q2 => (Or.inr (by omega)))) h_mo (fun rv H10 lo10 hM hF hpo => ?_)
  obtain ⟨f1_11, n1_12, rfl, hp_f_13, hp_f_14, hw_0⟩ := hpo
  have h_mo : PR E (x + 334) (modelW E (x + 334) (updC (updC mo 0 (updZ (updZ (mo 0) 0 0) 6 n1_12)) 2 f1_11)) H10 := hw_0
  replace hzl := Nat.le_trans hzl hF.1
  replace h_cm := h_cm.kept hF 1 rfl (fsd (by omega))
  replace h_co := h_co.kept hF 28 rfl (fsd (by omega))
  replace h_bf := h_bf.kept hF 28 rfl (fsd (by omega))
  replace h_sv := h_sv.kept hF 28 rfl (fsd (by omega))
  replace h_hi := h_hi.kept hF 2 rfl (fsd (by omega))
  replace h_hf := h_hf.kept hF (fsd (by omega))
  replace h_dk := h_dk.kept hF 3 rfl (fsd (by omega))
  replace h_se := h_se.kept hF 5 rfl (fsd (by omega))
  replace h_pg := h_pg.kept hF 1 rfl (fsd (by omega))
  replace h_sb := h_sb.kept hF 1 rfl (fsd (by omega))
  replace h_sa := h_sa.kept hF 1 rfl (fsd (by omega))
  replace h_pr := h_pr.kept hF 10 rfl (fsd (by omega))
  replace h_ln := h_ln.kept hF 1 rfl (fsd (by omega))
  replace h_la := h_la.kept hF 1 rfl (fsd (by omega))
  replace h_out := h_out.kept hF 1 rfl (fsd (by omega))
  replace h_outD := h_outD.kept hF 1 rfl (fsd (by omega))
  show V p l e room_1 s m args below meth cd Q 9 H10 lo10 (kq + 37) (nq + 2590) 3055 [(6, .int (zI 0)), (5, .int (zI i)), (4, .ref (x + 340)), (3, .ref (x + 339)), (2, .ref (x + 334)), (1, .ref x), (0, .ref b)] [.int (zI n1_12)]
  refine v_istore X dL_law_3055 3057 rfl (by decide) (L' := [(7, .int (zI n1_12)), (6, .int (zI 0)), (5, .int (zI i)), (4, .ref (x + 340)), (3, .ref (x + 339)), (2, .ref (x + 334)), (1, .ref x), (0, .ref b)]) rfl ?_
  refine v_aload_n X dL_law_3057 3058 rfl 5 rfl ?_
  refine v_rdV X hM.C h_mo.1 (c_X10_thrown l E (x + 334) (updC (updC mo 0 (updZ (updZ (mo 0) 0 0) 6 n1_12)) 2 f1_11)) kvX10_thrown kiX10_thrown kl_L_196 rfl rfl (As := []) rfl rfl (rm_law0 rfl (by omega) (by omega)) dL_law_3058 3061 rfl ?_
  show V p l e room_1 s m args below meth cd Q 9 H10 lo10 (kq + 37) (nq + 2590) 3061 [(7, .int (zI n1_12)), (6, .int (zI 0)), (5, .int (zI i)), (4, .ref (x + 340)), (3, .ref (x + 339)), (2, .ref (x + 334)), (1, .ref x), (0, .ref b)] [.int (zI 0)]
  refine v_iload X dL_law_3061 3063 rfl 1 rfl ?_
  refine v_icmp_eq X (by omega) (by omega) dL_law_3063 3066 3068 rfl (by decide) (fun c_15 => ?_) (fun c_15 => ?_)
  · skip
    refine v_iload X dL_law_3068 3070 rfl 1 rfl ?_
    refine v_if_ne X (by omega) dL_law_3070 3073 3085 rfl (by decide) (fun c_16 => ?_) (fun c_16 => ?_)
    · skip
      exfalso; omega
    · skip
      refine v_aload_n X dL_law_3073 3074 rfl 4 rfl ?_
      refine v_iconst X dL_law_3074 3075 rfl ?_
      refine v_lald X hM.C h_out.1 0 rfl dL_law_3075 3076 rfl ?_
      show V p l e room_1 s m args below meth cd Q 9 H10 lo10 (kq + 37) (nq + 2590) 3076 [(7, .int (zI n1_12)), (6, .int (zI 0)), (5, .int (zI i)), (4, .ref (x + 340)), (3, .ref (x + 339)), (2, .ref (x + 334)), (1, .ref x), (0, .ref b)] [.long (zL n1_5)]
      refine v_iload X dL_law_3076 3078 rfl 0 rfl ?_
      refine v_i2l X dL_law_3078 3079 rfl ?_
      refine V_S (st' := [.long (zL n1_12), .long (zL n1_12)]) (by rw [show (n1_5 : Int) = n1_12 from (LT.at hp_f_8.2.2.2 hp_f_13).1]) ?_
      refine v_lcmp0 X dL_law_3079 3080 rfl ?_
      refine v_if_eq X (by omega) dL_law_3080 3083 3085 rfl (by decide) (fun c_17 => ?_) (fun c_17 => ?_)
      · skip
        refine v_goto X dL_law_3085 3555 (by decide) ?_
        refine v_widen (k' := kq + 60) (n' := nq + 4000) (by omega) (by omega) ?_
        exact V_pick [2, 3, 4, 5, 6, 7] rfl (kk _ _ hM ⟨hzl, _, _, _, _, _, _, _, _, _, _, _, _, _, _, _, _, _, _, _, _, _, _, _, _, _, _, _, _, ⟨h_cm, h_co, h_bf, h_sv, h_hi, h_hf, h_dk, h_se, h_pg, h_sb, h_sa, h_pr, h_ln, h_la, h_mo, h_out, h_outD⟩, (hP0.line (hp_f_7.elim Or.inl (fun z => Or.inr (by omega))) (by omega) hp_f_8 (by omega) hp_f_13)⟩)
      · skip
        exfalso; omega
  · skip
    exfalso; omega
set_option maxHeartbeats 4000000 in
set_option maxRecDepth 20000 in
theorem lo_formatCase_1 (hl : l.stackTraces = false) (X : CF p m cd code 9 s args RL) (hX : va_X b Lx xs s s.heap) (hbl : b < s.heap.size) (hLx : Lx ≤ 2560) (hM : MS E [] s H lo) (hk : kq + 60 ≤ 603072) (hn : nq + 4000 ≤ 7211113) (hx : s.heap.size ≤ x) (hzl : x + 341 ≤ H.size) {v : Nat} {N : Nat} {f : Int → Int} {nn : Int} {v2 : Nat} {N2 : Nat} {f2 : Int → Int} {n2 : Int} {co : Nat → Int → Int} {bf : Nat → Int → Int} {cv : Nat → Int → Int} {hc : Nat → Nat → Int → Int} {nx : Int} {sz : Int} {hs : Int} {er : Int} {fa : Int} {ss : Int} {dk : Nat → Int → Int} {se : Nat → Int → Int} {po : Int} {si : Int} {pr : Nat → Int → Int} {ml : Int} {ml2 : Int} {mo : Nat → Int → Int} {lg : Nat → Int64} {dg : Nat → UInt64} (hW : LawW E x v N f nn v2 N2 f2 n2 co bf cv hc nx sz hs er fa ss dk se po si pr ml ml2 mo lg dg H) (hP : LawP x v N f nn v2 N2 f2 n2 co cv hc nx sz hs er fa ss po si pr mo) (i0 : 0 ≤ i) (i1 : i + 5 ≤ (Lx : Int)) {a1 : Int} (ha1 : (xs (i + 1).toNat).toInt = a1) (ga1 : Rg a1) (q0 : ¬ (0 ≤ a1 ∧ a1 < co 0 0)) (kk : ∀ (H1 : Heap) (lo1 : List Loc), MS E [] s H1 lo1 → LawI E x H1 → V p l e room_1 s m args below meth cd Q 9 H1 lo1 (kq + 60) (nq + 4000) 3555 [(5, .int (zI i)), (4, .ref (x + 340)), (3, .ref (x + 339)), (2, .ref (x + 334)), (1, .ref x), (0, .ref b)] []) : V p l e room_1 s m args below meth cd Q 9 H lo kq nq 3032 [(5, .int (zI i)), (4, .ref (x + 340)), (3, .ref (x + 339)), (2, .ref (x + 334)), (1, .ref x), (0, .ref b)] [] := by
  obtain ⟨h_cm, h_co, h_bf, h_sv, h_hi, h_hf, h_dk, h_se, h_pg, h_sb, h_sa, h_pr, h_ln, h_la, h_mo, h_out, h_outD⟩ := hW
  have hP0 := hP
  obtain ⟨⟨hD, hDv, hDh⟩, ⟨hRM, hch, hcs⟩, ⟨⟨n0, n1⟩, ⟨s0, s1⟩, hhs⟩, ⟨hm8, hnn, hAg, hNN, hnN, hf9⟩, ⟨T, hSB, hLT, hn38⟩, hPB, ⟨her, hfa, hss, ger, gfa, gss, gms⟩, ⟨gpo, gsi⟩, ⟨hv1, hv2, hvv⟩⟩ := hP
  have hO := hD.inv.ok
  have hI := hD.inv.ts
  have hSt := hD.inv.st
  have hS := hD.inv.sn
  have hR := hRM.1.2
  have hG := gp_inv hD
  have hb0 := hO.b0
  have hbw := hO.bw
  have hbf : ¬ Fr [] s.heap.size b := fun z => z.elim (fun q => q.elim) (fun q => by omega)
  refine v_aload_n X dL_law_3032 3033 rfl 4 rfl ?_
  refine v_aload_n X dL_law_3033 3034 rfl 5 rfl ?_
  refine v_iload X dL_law_3034 3036 rfl 0 rfl ?_
  refine v_iconst X dL_law_3036 3037 rfl ?_
  refine v_iadd X dL_law_3037 3038 rfl ?_
  refine v_scr X hM hX hbl hbf (by omega) (by omega) hLx ha1 dL_law_3038 3039 rfl ?_
  refine v_aload_n X dL_law_3039 3040 rfl 2 rfl ?_
  refine v_mwS X hM (w_X9_formatCase_0_t l hl E x co hs er fa ss a1 (x + 339) lg hO ga1 q0) kwL_formatCase ksL_formatCase kl_L_364 (As := [.ref x, .int (zI a1), .ref (x + 339)]) rfl rfl (rm_lawW rfl (by omega) (by omega)) dL_law_3040 3043 rfl (k' := kq + 1) (n' := nq + 6) rfl rfl (fun q hq => hq.elim) ⟨h_cm, h_co, h_out⟩ (fun rv H1 lo1 hM hF hpo => ?_)
  subst hpo
  replace hzl := Nat.le_trans hzl hF.1
  replace h_cm := h_cm.kept hF 1 rfl (fun q _ _ h => h.elim)
  replace h_co := h_co.kept hF 28 rfl (fun q _ _ h => h.elim)
  replace h_bf := h_bf.kept hF 28 rfl (fun q _ _ h => h.elim)
  replace h_sv := h_sv.kept hF 28 rfl (fun q _ _ h => h.elim)
  replace h_hi := h_hi.kept hF 2 rfl (fun q _ _ h => h.elim)
  replace h_hf := h_hf.kept hF (fun q _ _ h => h.elim)
  replace h_dk := h_dk.kept hF 3 rfl (fun q _ _ h => h.elim)
  replace h_se := h_se.kept hF 5 rfl (fun q _ _ h => h.elim)
  replace h_pg := h_pg.kept hF 1 rfl (fun q _ _ h => h.elim)
  replace h_sb := h_sb.kept hF 1 rfl (fun q _ _ h => h.elim)
  replace h_sa := h_sa.kept hF 1 rfl (fun q _ _ h => h.elim)
  replace h_pr := h_pr.kept hF 10 rfl (fun q _ _ h => h.elim)
  replace h_ln := h_ln.kept hF 1 rfl (fun q _ _ h => h.elim)
  replace h_la := h_la.kept hF 1 rfl (fun q _ _ h => h.elim)
  replace h_mo := h_mo.kept hF 5 rfl (fun q _ _ h => h.elim)
  replace h_out := h_out.kept hF 1 rfl (fun q _ _ h => h.elim)
  replace h_outD := h_outD.kept hF 1 rfl (fun q _ _ h => h.elim)
  show V p l e room_1 s m args below meth cd Q 9 H1 lo1 (kq + 1) (nq + 6) 3043 [(5, .int (zI i)), (4, .ref (x + 340)), (3, .ref (x + 339)), (2, .ref (x + 334)), (1, .ref x), (0, .ref b)] [.int (zI 1)]
  refine v_istore X dL_law_3043 3045 rfl (by decide) (L' := [(6, .int (zI 1)), (5, .int (zI i)), (4, .ref (x + 340)), (3, .ref (x + 339)), (2, .ref (x + 334)), (1, .ref x), (0, .ref b)]) rfl ?_
  refine v_aload_n X dL_law_3045 3046 rfl 4 rfl ?_
  refine v_aload_n X dL_law_3046 3047 rfl 6 rfl ?_
  refine v_iload X dL_law_3047 3049 rfl 1 rfl ?_
  refine v_iconst X dL_law_3049 3050 rfl ?_
  refine v_iadd X dL_law_3050 3051 rfl ?_
  refine v_scr X hM hX hbl hbf (by omega) (by omega) hLx ha1 dL_law_3051 3052 rfl ?_
  refine v_muV X hM (h_mo.1) (c_X10_formatCase_0 l E (x + 334) mo co a1 hO hR ga1 q0) kvX10_formatCase kiX10_formatCase kl_L_366 (q0 := 0) rfl rfl (As := [.int (zI a1)]) rfl rfl (rm_law rfl (by omega) (by omega)) dL_law_3052 3055 rfl (k' := kq + 1) (n' := nq + 6) rfl rfl (fsI (fun q q1 q2 => (Or.inr (by omega)))) h_mo (fun rv H2 lo2 hM hF hpo => ?_)
  obtain ⟨rfl, hw_0⟩ := hpo
  have h_mo : PR E (x + 334) (modelW E (x + 334) (updC mo 0 (updZ (mo 0) 0 1))) H2 := hw_0
  replace hzl := Nat.le_trans hzl hF.1
  replace h_cm := h_cm.kept hF 1 rfl (fsd (by omega))
  replace h_co := h_co.kept hF 28 rfl (fsd (by omega))
  replace h_bf := h_bf.kept hF 28 rfl (fsd (by omega))
  replace h_sv := h_sv.kept hF 28 rfl (fsd (by omega))
  replace h_hi := h_hi.kept hF 2 rfl (fsd (by omega))
  replace h_hf := h_hf.kept hF (fsd (by omega))
  replace h_dk := h_dk.kept hF 3 rfl (fsd (by omega))
  replace h_se := h_se.kept hF 5 rfl (fsd (by omega))
  replace h_pg := h_pg.kept hF 1 rfl (fsd (by omega))
  replace h_sb := h_sb.kept hF 1 rfl (fsd (by omega))
  replace h_sa := h_sa.kept hF 1 rfl (fsd (by omega))
  replace h_pr := h_pr.kept hF 10 rfl (fsd (by omega))
  replace h_ln := h_ln.kept hF 1 rfl (fsd (by omega))
  replace h_la := h_la.kept hF 1 rfl (fsd (by omega))
  replace h_out := h_out.kept hF 1 rfl (fsd (by omega))
  replace h_outD := h_outD.kept hF 1 rfl (fsd (by omega))
  show V p l e room_1 s m args below meth cd Q 9 H2 lo2 (kq + 1) (nq + 6) 3055 [(6, .int (zI 1)), (5, .int (zI i)), (4, .ref (x + 340)), (3, .ref (x + 339)), (2, .ref (x + 334)), (1, .ref x), (0, .ref b)] [.int (zI 0)]
  refine v_istore X dL_law_3055 3057 rfl (by decide) (L' := [(7, .int (zI 0)), (6, .int (zI 1)), (5, .int (zI i)), (4, .ref (x + 340)), (3, .ref (x + 339)), (2, .ref (x + 334)), (1, .ref x), (0, .ref b)]) rfl ?_
  refine v_aload_n X dL_law_3057 3058 rfl 5 rfl ?_
  refine v_rdV X hM.C h_mo.1 (c_X10_thrown l E (x + 334) (updC mo 0 (updZ (mo 0) 0 1))) kvX10_thrown kiX10_thrown kl_L_196 rfl rfl (As := []) rfl rfl (rm_law0 rfl (by omega) (by omega)) dL_law_3058 3061 rfl ?_
  show V p l e room_1 s m args below meth cd Q 9 H2 lo2 (kq + 1) (nq + 6) 3061 [(7, .int (zI 0)), (6, .int (zI 1)), (5, .int (zI i)), (4, .ref (x + 340)), (3, .ref (x + 339)), (2, .ref (x + 334)), (1, .ref x), (0, .ref b)] [.int (zI 1)]
  refine v_iload X dL_law_3061 3063 rfl 1 rfl ?_
  refine v_icmp_eq X (by omega) (by omega) dL_law_3063 3066 3068 rfl (by decide) (fun c_3 => ?_) (fun c_3 => ?_)
  · skip
    refine v_iload X dL_law_3068 3070 rfl 1 rfl ?_
    refine v_if_ne X (by omega) dL_law_3070 3073 3085 rfl (by decide) (fun c_4 => ?_) (fun c_4 => ?_)
    · skip
      refine v_goto X dL_law_3085 3555 (by decide) ?_
      refine v_widen (k' := kq + 60) (n' := nq + 4000) (by omega) (by omega) ?_
      exact V_pick [2, 3, 4, 5, 6, 7] rfl (kk _ _ hM ⟨hzl, _, _, _, _, _, _, _, _, _, _, _, _, _, _, _, _, _, _, _, _, _, _, _, _, _, _, _, _, ⟨h_cm, h_co, h_bf, h_sv, h_hi, h_hf, h_dk, h_se, h_pg, h_sb, h_sa, h_pr, h_ln, h_la, h_mo, h_out, h_outD⟩, hP0.mo_0⟩)
    · skip
      exfalso; omega
  · skip
    exfalso; omega
set_option maxHeartbeats 4000000 in
set_option maxRecDepth 20000 in
theorem lo_formatWitness (hl : l.stackTraces = false) (X : CF p m cd code 9 s args RL) (hX : va_X b Lx xs s s.heap) (hbl : b < s.heap.size) (hLx : Lx ≤ 2560) (hM : MS E [] s H lo) (hk : kq + 60 ≤ 603072) (hn : nq + 4000 ≤ 7211113) (hx : s.heap.size ≤ x) (hzl : x + 341 ≤ H.size) {v : Nat} {N : Nat} {f : Int → Int} {nn : Int} {v2 : Nat} {N2 : Nat} {f2 : Int → Int} {n2 : Int} {co : Nat → Int → Int} {bf : Nat → Int → Int} {cv : Nat → Int → Int} {hc : Nat → Nat → Int → Int} {nx : Int} {sz : Int} {hs : Int} {er : Int} {fa : Int} {ss : Int} {dk : Nat → Int → Int} {se : Nat → Int → Int} {po : Int} {si : Int} {pr : Nat → Int → Int} {ml : Int} {ml2 : Int} {mo : Nat → Int → Int} {lg : Nat → Int64} {dg : Nat → UInt64} (hW : LawW E x v N f nn v2 N2 f2 n2 co bf cv hc nx sz hs er fa ss dk se po si pr ml ml2 mo lg dg H) (hP : LawP x v N f nn v2 N2 f2 n2 co cv hc nx sz hs er fa ss po si pr mo) (i0 : 0 ≤ i) (i1 : i + 5 ≤ (Lx : Int)) {a1 : Int} (ha1 : (xs (i + 1).toNat).toInt = a1) (ga1 : Rg a1) (q0 : 0 ≤ a1 ∧ a1 < co 0 1) (kk : ∀ (H1 : Heap) (lo1 : List Loc), MS E [] s H1 lo1 → LawI E x H1 → V p l e room_1 s m args below meth cd Q 9 H1 lo1 (kq + 60) (nq + 4000) 3555 [(5, .int (zI i)), (4, .ref (x + 340)), (3, .ref (x + 339)), (2, .ref (x + 334)), (1, .ref x), (0, .ref b)] []) : V p l e room_1 s m args below meth cd Q 9 H lo kq nq 3088 [(5, .int (zI i)), (4, .ref (x + 340)), (3, .ref (x + 339)), (2, .ref (x + 334)), (1, .ref x), (0, .ref b)] [] := by
  obtain ⟨h_cm, h_co, h_bf, h_sv, h_hi, h_hf, h_dk, h_se, h_pg, h_sb, h_sa, h_pr, h_ln, h_la, h_mo, h_out, h_outD⟩ := hW
  have hP0 := hP
  obtain ⟨⟨hD, hDv, hDh⟩, ⟨hRM, hch, hcs⟩, ⟨⟨n0, n1⟩, ⟨s0, s1⟩, hhs⟩, ⟨hm8, hnn, hAg, hNN, hnN, hf9⟩, ⟨T, hSB, hLT, hn38⟩, hPB, ⟨her, hfa, hss, ger, gfa, gss, gms⟩, ⟨gpo, gsi⟩, ⟨hv1, hv2, hvv⟩⟩ := hP
  have hO := hD.inv.ok
  have hI := hD.inv.ts
  have hSt := hD.inv.st
  have hS := hD.inv.sn
  have hR := hRM.1.2
  have hG := gp_inv hD
  have hb0 := hO.b0
  have hbw := hO.bw
  have hbf : ¬ Fr [] s.heap.size b := fun z => z.elim (fun q => q.elim) (fun q => by omega)
  refine v_aload_n X dL_law_3088 3089 rfl 4 rfl ?_
  refine v_aload_n X dL_law_3089 3090 rfl 5 rfl ?_
  refine v_iload X dL_law_3090 3092 rfl 0 rfl ?_
  refine v_iconst X dL_law_3092 3093 rfl ?_
  refine v_iadd X dL_law_3093 3094 rfl ?_
  refine v_scr X hM hX hbl hbf (by omega) (by omega) hLx ha1 dL_law_3094 3095 rfl ?_
  refine v_aload_n X dL_law_3095 3096 rfl 2 rfl ?_
  have hzl9 := hzl
  have hvl : v < H.size := (h_sa.1 0 _ rfl).lt
  have hvl2 : v2 < H.size := (h_la.1 0 _ rfl).lt
  refine v_mwS X hM (w_X9_formatWitness l hl E x co hs er fa ss v2 N2 f2 ml2 n2 a1 T H.size (x + 339) lg hO ga1 q0 (by omega) hSB (by omega) (by omega) (by omega) (by omega) (by omega) (by omega) (by omega) (by omega) (by omega) (by omega) (by omega)) kwL_formatWitness ksL_formatWitness kl_L_367 (As := [.ref x, .int (zI a1), .ref (x + 339)]) rfl rfl (rm_lawW rfl (by omega) (by omega)) dL_law_3096 3099 rfl (k' := kq + 4) (n' := nq + 280) rfl rfl (by intro q hq; simp only [Fr, Fs, or_false, false_or] at hq ⊢; omega) ⟨h_cm, h_co, h_ln, h_la, h_out, (by omega)⟩ (fun rv H1 lo1 hM hF hpo => ?_)
  obtain ⟨v1_2, N1_3, f1_4, n1_5, ml1_6, rfl, hp_f_7, hp_f_8, hp_f_9, hw_0, hw_1, hw_2⟩ := hpo
  have h_ln : PR E (x + 332) [(x + 332, .inr (1, [.ref v1_2, .int (zI 0), .int (zI ml1_6), .int (zI n1_5)]))] H1 := hw_0
  have h_la : PR E v1_2 [(v1_2, .inl (E 102 2, N1_3, .inl (zA f1_4)))] H1 := hw_1
  have h_out : PR E (x + 339) [(x + 339, .inl (E 102 4, 1, .inr (.inl (fun _ => zL n1_5))))] H1 := hw_2
  replace hzl := Nat.le_trans hzl hF.1
  replace h_cm := h_cm.kept hF 1 rfl (by intro q q1 q2 q3; simp only [Fs, or_false] at q3; omega)
  replace h_co := h_co.kept hF 28 rfl (by intro q q1 q2 q3; simp only [Fs, or_false] at q3; omega)
  replace h_bf := h_bf.kept hF 28 rfl (by intro q q1 q2 q3; simp only [Fs, or_false] at q3; omega)
  replace h_sv := h_sv.kept hF 28 rfl (by intro q q1 q2 q3; simp only [Fs, or_false] at q3; omega)
  replace h_hi := h_hi.kept hF 2 rfl (by intro q q1 q2 q3; simp only [Fs, or_false] at q3; omega)
  replace h_hf := h_hf.kept hF (by intro q q1 q2 q3; simp only [Fs, or_false] at q3; omega)
  replace h_dk := h_dk.kept hF 3 rfl (by intro q q1 q2 q3; simp only [Fs, or_false] at q3; omega)
  replace h_se := h_se.kept hF 5 rfl (by intro q q1 q2 q3; simp only [Fs, or_false] at q3; omega)
  replace h_pg := h_pg.kept hF 1 rfl (by intro q q1 q2 q3; simp only [Fs, or_false] at q3; omega)
  replace h_sb := h_sb.kept hF 1 rfl (by intro q q1 q2 q3; simp only [Fs, or_false] at q3; omega)
  replace h_sa := h_sa.kept hF 1 rfl (by intro q q1 q2 q3; simp only [Fs, or_false] at q3; omega)
  replace h_pr := h_pr.kept hF 10 rfl (by intro q q1 q2 q3; simp only [Fs, or_false] at q3; omega)
  replace h_mo := h_mo.kept hF 5 rfl (by intro q q1 q2 q3; simp only [Fs, or_false] at q3; omega)
  replace h_outD := h_outD.kept hF 1 rfl (by intro q q1 q2 q3; simp only [Fs, or_false] at q3; omega)
  show V p l e room_1 s m args below meth cd Q 9 H1 lo1 (kq + 4) (nq + 280) 3099 [(5, .int (zI i)), (4, .ref (x + 340)), (3, .ref (x + 339)), (2, .ref (x + 334)), (1, .ref x), (0, .ref b)] [.int (zI 0)]
  refine v_istore X dL_law_3099 3101 rfl (by decide) (L' := [(6, .int (zI 0)), (5, .int (zI i)), (4, .ref (x + 340)), (3, .ref (x + 339)), (2, .ref (x + 334)), (1, .ref x), (0, .ref b)]) rfl ?_
  refine v_aload_n X dL_law_3101 3102 rfl 4 rfl ?_
  refine v_aload_n X dL_law_3102 3103 rfl 6 rfl ?_
  refine v_iload X dL_law_3103 3105 rfl 1 rfl ?_
  refine v_iconst X dL_law_3105 3106 rfl ?_
  refine v_iadd X dL_law_3106 3107 rfl ?_
  refine v_scr X hM hX hbl hbf (by omega) (by omega) hLx ha1 dL_law_3107 3108 rfl ?_
  refine v_muV X hM (h_mo.1) (c_X10_formatWitness l E (x + 334) mo co a1 hO hR ga1 q0) kvX10_formatWitness kiX10_formatWitness kl_L_369 (q0 := 0) rfl rfl (As := [.int (zI a1)]) rfl rfl (rm_law rfl (by omega) (by omega)) dL_law_3108 3111 rfl (k' := kq + 4) (n' := nq + 280) rfl rfl (fsI (fun q q1 q2 => (Or.inr (by omega)))) h_mo (fun rv H10 lo10 hM hF hpo => ?_)
  obtain ⟨f1_11, n1_12, rfl, hp_f_13, hp_f_14, hw_0⟩ := hpo
  have h_mo : PR E (x + 334) (modelW E (x + 334) (updC (updC mo 0 (updZ (updZ (mo 0) 0 0) 6 n1_12)) 2 f1_11)) H10 := hw_0
  replace hzl := Nat.le_trans hzl hF.1
  replace h_cm := h_cm.kept hF 1 rfl (fsd (by omega))
  replace h_co := h_co.kept hF 28 rfl (fsd (by omega))
  replace h_bf := h_bf.kept hF 28 rfl (fsd (by omega))
  replace h_sv := h_sv.kept hF 28 rfl (fsd (by omega))
  replace h_hi := h_hi.kept hF 2 rfl (fsd (by omega))
  replace h_hf := h_hf.kept hF (fsd (by omega))
  replace h_dk := h_dk.kept hF 3 rfl (fsd (by omega))
  replace h_se := h_se.kept hF 5 rfl (fsd (by omega))
  replace h_pg := h_pg.kept hF 1 rfl (fsd (by omega))
  replace h_sb := h_sb.kept hF 1 rfl (fsd (by omega))
  replace h_sa := h_sa.kept hF 1 rfl (fsd (by omega))
  replace h_pr := h_pr.kept hF 10 rfl (fsd (by omega))
  replace h_ln := h_ln.kept hF 1 rfl (fsd (by omega))
  replace h_la := h_la.kept hF 1 rfl (fsd (by omega))
  replace h_out := h_out.kept hF 1 rfl (fsd (by omega))
  replace h_outD := h_outD.kept hF 1 rfl (fsd (by omega))
  show V p l e room_1 s m args below meth cd Q 9 H10 lo10 (kq + 4) (nq + 280) 3111 [(6, .int (zI 0)), (5, .int (zI i)), (4, .ref (x + 340)), (3, .ref (x + 339)), (2, .ref (x + 334)), (1, .ref x), (0, .ref b)] [.int (zI n1_12)]
  refine v_istore X dL_law_3111 3113 rfl (by decide) (L' := [(7, .int (zI n1_12)), (6, .int (zI 0)), (5, .int (zI i)), (4, .ref (x + 340)), (3, .ref (x + 339)), (2, .ref (x + 334)), (1, .ref x), (0, .ref b)]) rfl ?_
  refine v_aload_n X dL_law_3113 3114 rfl 5 rfl ?_
  refine v_rdV X hM.C h_mo.1 (c_X10_thrown l E (x + 334) (updC (updC mo 0 (updZ (updZ (mo 0) 0 0) 6 n1_12)) 2 f1_11)) kvX10_thrown kiX10_thrown kl_L_196 rfl rfl (As := []) rfl rfl (rm_law0 rfl (by omega) (by omega)) dL_law_3114 3117 rfl ?_
  show V p l e room_1 s m args below meth cd Q 9 H10 lo10 (kq + 4) (nq + 280) 3117 [(7, .int (zI n1_12)), (6, .int (zI 0)), (5, .int (zI i)), (4, .ref (x + 340)), (3, .ref (x + 339)), (2, .ref (x + 334)), (1, .ref x), (0, .ref b)] [.int (zI 0)]
  refine v_iload X dL_law_3117 3119 rfl 1 rfl ?_
  refine v_icmp_eq X (by omega) (by omega) dL_law_3119 3122 3124 rfl (by decide) (fun c_15 => ?_) (fun c_15 => ?_)
  · skip
    refine v_iload X dL_law_3124 3126 rfl 1 rfl ?_
    refine v_if_ne X (by omega) dL_law_3126 3129 3141 rfl (by decide) (fun c_16 => ?_) (fun c_16 => ?_)
    · skip
      exfalso; omega
    · skip
      refine v_aload_n X dL_law_3129 3130 rfl 4 rfl ?_
      refine v_iconst X dL_law_3130 3131 rfl ?_
      refine v_lald X hM.C h_out.1 0 rfl dL_law_3131 3132 rfl ?_
      show V p l e room_1 s m args below meth cd Q 9 H10 lo10 (kq + 4) (nq + 280) 3132 [(7, .int (zI n1_12)), (6, .int (zI 0)), (5, .int (zI i)), (4, .ref (x + 340)), (3, .ref (x + 339)), (2, .ref (x + 334)), (1, .ref x), (0, .ref b)] [.long (zL n1_5)]
      refine v_iload X dL_law_3132 3134 rfl 0 rfl ?_
      refine v_i2l X dL_law_3134 3135 rfl ?_
      refine V_S (st' := [.long (zL n1_12), .long (zL n1_12)]) (by rw [show (n1_5 : Int) = n1_12 from (LT.at hp_f_8.2.2.2 hp_f_13).1]) ?_
      refine v_lcmp0 X dL_law_3135 3136 rfl ?_
      refine v_if_eq X (by omega) dL_law_3136 3139 3141 rfl (by decide) (fun c_17 => ?_) (fun c_17 => ?_)
      · skip
        refine v_goto X dL_law_3141 3555 (by decide) ?_
        refine v_widen (k' := kq + 60) (n' := nq + 4000) (by omega) (by omega) ?_
        exact V_pick [2, 3, 4, 5, 6, 7] rfl (kk _ _ hM ⟨hzl, _, _, _, _, _, _, _, _, _, _, _, _, _, _, _, _, _, _, _, _, _, _, _, _, _, _, _, _, ⟨h_cm, h_co, h_bf, h_sv, h_hi, h_hf, h_dk, h_se, h_pg, h_sb, h_sa, h_pr, h_ln, h_la, h_mo, h_out, h_outD⟩, (hP0.line (hp_f_7.elim Or.inl (fun z => Or.inr (by omega))) (by omega) hp_f_8 (by omega) hp_f_13)⟩)
      · skip
        exfalso; omega
  · skip
    exfalso; omega
set_option maxHeartbeats 4000000 in
set_option maxRecDepth 20000 in
theorem lo_formatWitness_1 (hl : l.stackTraces = false) (X : CF p m cd code 9 s args RL) (hX : va_X b Lx xs s s.heap) (hbl : b < s.heap.size) (hLx : Lx ≤ 2560) (hM : MS E [] s H lo) (hk : kq + 60 ≤ 603072) (hn : nq + 4000 ≤ 7211113) (hx : s.heap.size ≤ x) (hzl : x + 341 ≤ H.size) {v : Nat} {N : Nat} {f : Int → Int} {nn : Int} {v2 : Nat} {N2 : Nat} {f2 : Int → Int} {n2 : Int} {co : Nat → Int → Int} {bf : Nat → Int → Int} {cv : Nat → Int → Int} {hc : Nat → Nat → Int → Int} {nx : Int} {sz : Int} {hs : Int} {er : Int} {fa : Int} {ss : Int} {dk : Nat → Int → Int} {se : Nat → Int → Int} {po : Int} {si : Int} {pr : Nat → Int → Int} {ml : Int} {ml2 : Int} {mo : Nat → Int → Int} {lg : Nat → Int64} {dg : Nat → UInt64} (hW : LawW E x v N f nn v2 N2 f2 n2 co bf cv hc nx sz hs er fa ss dk se po si pr ml ml2 mo lg dg H) (hP : LawP x v N f nn v2 N2 f2 n2 co cv hc nx sz hs er fa ss po si pr mo) (i0 : 0 ≤ i) (i1 : i + 5 ≤ (Lx : Int)) {a1 : Int} (ha1 : (xs (i + 1).toNat).toInt = a1) (ga1 : Rg a1) (q0 : ¬ (0 ≤ a1 ∧ a1 < co 0 1)) (kk : ∀ (H1 : Heap) (lo1 : List Loc), MS E [] s H1 lo1 → LawI E x H1 → V p l e room_1 s m args below meth cd Q 9 H1 lo1 (kq + 60) (nq + 4000) 3555 [(5, .int (zI i)), (4, .ref (x + 340)), (3, .ref (x + 339)), (2, .ref (x + 334)), (1, .ref x), (0, .ref b)] []) : V p l e room_1 s m args below meth cd Q 9 H lo kq nq 3088 [(5, .int (zI i)), (4, .ref (x + 340)), (3, .ref (x + 339)), (2, .ref (x + 334)), (1, .ref x), (0, .ref b)] [] := by
  obtain ⟨h_cm, h_co, h_bf, h_sv, h_hi, h_hf, h_dk, h_se, h_pg, h_sb, h_sa, h_pr, h_ln, h_la, h_mo, h_out, h_outD⟩ := hW
  have hP0 := hP
  obtain ⟨⟨hD, hDv, hDh⟩, ⟨hRM, hch, hcs⟩, ⟨⟨n0, n1⟩, ⟨s0, s1⟩, hhs⟩, ⟨hm8, hnn, hAg, hNN, hnN, hf9⟩, ⟨T, hSB, hLT, hn38⟩, hPB, ⟨her, hfa, hss, ger, gfa, gss, gms⟩, ⟨gpo, gsi⟩, ⟨hv1, hv2, hvv⟩⟩ := hP
  have hO := hD.inv.ok
  have hI := hD.inv.ts
  have hSt := hD.inv.st
  have hS := hD.inv.sn
  have hR := hRM.1.2
  have hG := gp_inv hD
  have hb0 := hO.b0
  have hbw := hO.bw
  have hbf : ¬ Fr [] s.heap.size b := fun z => z.elim (fun q => q.elim) (fun q => by omega)
  refine v_aload_n X dL_law_3088 3089 rfl 4 rfl ?_
  refine v_aload_n X dL_law_3089 3090 rfl 5 rfl ?_
  refine v_iload X dL_law_3090 3092 rfl 0 rfl ?_
  refine v_iconst X dL_law_3092 3093 rfl ?_
  refine v_iadd X dL_law_3093 3094 rfl ?_
  refine v_scr X hM hX hbl hbf (by omega) (by omega) hLx ha1 dL_law_3094 3095 rfl ?_
  refine v_aload_n X dL_law_3095 3096 rfl 2 rfl ?_
  refine v_mwS X hM (w_X9_formatWitness_0_t l hl E x co hs er fa ss a1 (x + 339) lg hO ga1 q0) kwL_formatWitness ksL_formatWitness kl_L_367 (As := [.ref x, .int (zI a1), .ref (x + 339)]) rfl rfl (rm_lawW rfl (by omega) (by omega)) dL_law_3096 3099 rfl (k' := kq + 1) (n' := nq + 6) rfl rfl (fun q hq => hq.elim) ⟨h_cm, h_co, h_out⟩ (fun rv H1 lo1 hM hF hpo => ?_)
  subst hpo
  replace hzl := Nat.le_trans hzl hF.1
  replace h_cm := h_cm.kept hF 1 rfl (fun q _ _ h => h.elim)
  replace h_co := h_co.kept hF 28 rfl (fun q _ _ h => h.elim)
  replace h_bf := h_bf.kept hF 28 rfl (fun q _ _ h => h.elim)
  replace h_sv := h_sv.kept hF 28 rfl (fun q _ _ h => h.elim)
  replace h_hi := h_hi.kept hF 2 rfl (fun q _ _ h => h.elim)
  replace h_hf := h_hf.kept hF (fun q _ _ h => h.elim)
  replace h_dk := h_dk.kept hF 3 rfl (fun q _ _ h => h.elim)
  replace h_se := h_se.kept hF 5 rfl (fun q _ _ h => h.elim)
  replace h_pg := h_pg.kept hF 1 rfl (fun q _ _ h => h.elim)
  replace h_sb := h_sb.kept hF 1 rfl (fun q _ _ h => h.elim)
  replace h_sa := h_sa.kept hF 1 rfl (fun q _ _ h => h.elim)
  replace h_pr := h_pr.kept hF 10 rfl (fun q _ _ h => h.elim)
  replace h_ln := h_ln.kept hF 1 rfl (fun q _ _ h => h.elim)
  replace h_la := h_la.kept hF 1 rfl (fun q _ _ h => h.elim)
  replace h_mo := h_mo.kept hF 5 rfl (fun q _ _ h => h.elim)
  replace h_out := h_out.kept hF 1 rfl (fun q _ _ h => h.elim)
  replace h_outD := h_outD.kept hF 1 rfl (fun q _ _ h => h.elim)
  show V p l e room_1 s m args below meth cd Q 9 H1 lo1 (kq + 1) (nq + 6) 3099 [(5, .int (zI i)), (4, .ref (x + 340)), (3, .ref (x + 339)), (2, .ref (x + 334)), (1, .ref x), (0, .ref b)] [.int (zI 1)]
  refine v_istore X dL_law_3099 3101 rfl (by decide) (L' := [(6, .int (zI 1)), (5, .int (zI i)), (4, .ref (x + 340)), (3, .ref (x + 339)), (2, .ref (x + 334)), (1, .ref x), (0, .ref b)]) rfl ?_
  refine v_aload_n X dL_law_3101 3102 rfl 4 rfl ?_
  refine v_aload_n X dL_law_3102 3103 rfl 6 rfl ?_
  refine v_iload X dL_law_3103 3105 rfl 1 rfl ?_
  refine v_iconst X dL_law_3105 3106 rfl ?_
  refine v_iadd X dL_law_3106 3107 rfl ?_
  refine v_scr X hM hX hbl hbf (by omega) (by omega) hLx ha1 dL_law_3107 3108 rfl ?_
  refine v_muV X hM (h_mo.1) (c_X10_formatWitness_0 l E (x + 334) mo co a1 hO hR ga1 q0) kvX10_formatWitness kiX10_formatWitness kl_L_369 (q0 := 0) rfl rfl (As := [.int (zI a1)]) rfl rfl (rm_law rfl (by omega) (by omega)) dL_law_3108 3111 rfl (k' := kq + 1) (n' := nq + 6) rfl rfl (fsI (fun q q1 q2 => (Or.inr (by omega)))) h_mo (fun rv H2 lo2 hM hF hpo => ?_)
  obtain ⟨rfl, hw_0⟩ := hpo
  have h_mo : PR E (x + 334) (modelW E (x + 334) (updC mo 0 (updZ (mo 0) 0 1))) H2 := hw_0
  replace hzl := Nat.le_trans hzl hF.1
  replace h_cm := h_cm.kept hF 1 rfl (fsd (by omega))
  replace h_co := h_co.kept hF 28 rfl (fsd (by omega))
  replace h_bf := h_bf.kept hF 28 rfl (fsd (by omega))
  replace h_sv := h_sv.kept hF 28 rfl (fsd (by omega))
  replace h_hi := h_hi.kept hF 2 rfl (fsd (by omega))
  replace h_hf := h_hf.kept hF (fsd (by omega))
  replace h_dk := h_dk.kept hF 3 rfl (fsd (by omega))
  replace h_se := h_se.kept hF 5 rfl (fsd (by omega))
  replace h_pg := h_pg.kept hF 1 rfl (fsd (by omega))
  replace h_sb := h_sb.kept hF 1 rfl (fsd (by omega))
  replace h_sa := h_sa.kept hF 1 rfl (fsd (by omega))
  replace h_pr := h_pr.kept hF 10 rfl (fsd (by omega))
  replace h_ln := h_ln.kept hF 1 rfl (fsd (by omega))
  replace h_la := h_la.kept hF 1 rfl (fsd (by omega))
  replace h_out := h_out.kept hF 1 rfl (fsd (by omega))
  replace h_outD := h_outD.kept hF 1 rfl (fsd (by omega))
  show V p l e room_1 s m args below meth cd Q 9 H2 lo2 (kq + 1) (nq + 6) 3111 [(6, .int (zI 1)), (5, .int (zI i)), (4, .ref (x + 340)), (3, .ref (x + 339)), (2, .ref (x + 334)), (1, .ref x), (0, .ref b)] [.int (zI 0)]
  refine v_istore X dL_law_3111 3113 rfl (by decide) (L' := [(7, .int (zI 0)), (6, .int (zI 1)), (5, .int (zI i)), (4, .ref (x + 340)), (3, .ref (x + 339)), (2, .ref (x + 334)), (1, .ref x), (0, .ref b)]) rfl ?_
  refine v_aload_n X dL_law_3113 3114 rfl 5 rfl ?_
  refine v_rdV X hM.C h_mo.1 (c_X10_thrown l E (x + 334) (updC mo 0 (updZ (mo 0) 0 1))) kvX10_thrown kiX10_thrown kl_L_196 rfl rfl (As := []) rfl rfl (rm_law0 rfl (by omega) (by omega)) dL_law_3114 3117 rfl ?_
  show V p l e room_1 s m args below meth cd Q 9 H2 lo2 (kq + 1) (nq + 6) 3117 [(7, .int (zI 0)), (6, .int (zI 1)), (5, .int (zI i)), (4, .ref (x + 340)), (3, .ref (x + 339)), (2, .ref (x + 334)), (1, .ref x), (0, .ref b)] [.int (zI 1)]
  refine v_iload X dL_law_3117 3119 rfl 1 rfl ?_
  refine v_icmp_eq X (by omega) (by omega) dL_law_3119 3122 3124 rfl (by decide) (fun c_3 => ?_) (fun c_3 => ?_)
  · skip
    refine v_iload X dL_law_3124 3126 rfl 1 rfl ?_
    refine v_if_ne X (by omega) dL_law_3126 3129 3141 rfl (by decide) (fun c_4 => ?_) (fun c_4 => ?_)
    · skip
      refine v_goto X dL_law_3141 3555 (by decide) ?_
      refine v_widen (k' := kq + 60) (n' := nq + 4000) (by omega) (by omega) ?_
      exact V_pick [2, 3, 4, 5, 6, 7] rfl (kk _ _ hM ⟨hzl, _, _, _, _, _, _, _, _, _, _, _, _, _, _, _, _, _, _, _, _, _, _, _, _, _, _, _, _, ⟨h_cm, h_co, h_bf, h_sv, h_hi, h_hf, h_dk, h_se, h_pg, h_sb, h_sa, h_pr, h_ln, h_la, h_mo, h_out, h_outD⟩, hP0.mo_0⟩)
    · skip
      exfalso; omega
  · skip
    exfalso; omega
set_option maxHeartbeats 4000000 in
set_option maxRecDepth 20000 in
theorem lo_lineChar (hl : l.stackTraces = false) (X : CF p m cd code 9 s args RL) (hX : va_X b Lx xs s s.heap) (hbl : b < s.heap.size) (hLx : Lx ≤ 2560) (hM : MS E [] s H lo) (hk : kq + 60 ≤ 603072) (hn : nq + 4000 ≤ 7211113) (hx : s.heap.size ≤ x) (hzl : x + 341 ≤ H.size) {v : Nat} {N : Nat} {f : Int → Int} {nn : Int} {v2 : Nat} {N2 : Nat} {f2 : Int → Int} {n2 : Int} {co : Nat → Int → Int} {bf : Nat → Int → Int} {cv : Nat → Int → Int} {hc : Nat → Nat → Int → Int} {nx : Int} {sz : Int} {hs : Int} {er : Int} {fa : Int} {ss : Int} {dk : Nat → Int → Int} {se : Nat → Int → Int} {po : Int} {si : Int} {pr : Nat → Int → Int} {ml : Int} {ml2 : Int} {mo : Nat → Int → Int} {lg : Nat → Int64} {dg : Nat → UInt64} (hW : LawW E x v N f nn v2 N2 f2 n2 co bf cv hc nx sz hs er fa ss dk se po si pr ml ml2 mo lg dg H) (hP : LawP x v N f nn v2 N2 f2 n2 co cv hc nx sz hs er fa ss po si pr mo) (i0 : 0 ≤ i) (i1 : i + 5 ≤ (Lx : Int)) {a1 : Int} (ha1 : (xs (i + 1).toNat).toInt = a1) (ga1 : Rg a1) (q0 : 0 ≤ a1) (q1 : a1 < n2) (kk : ∀ (H1 : Heap) (lo1 : List Loc), MS E [] s H1 lo1 → LawI E x H1 → V p l e room_1 s m args below meth cd Q 9 H1 lo1 (kq + 60) (nq + 4000) 3555 [(5, .int (zI i)), (4, .ref (x + 340)), (3, .ref (x + 339)), (2, .ref (x + 334)), (1, .ref x), (0, .ref b)] []) : V p l e room_1 s m args below meth cd Q 9 H lo kq nq 3144 [(5, .int (zI i)), (4, .ref (x + 340)), (3, .ref (x + 339)), (2, .ref (x + 334)), (1, .ref x), (0, .ref b)] [] := by
  obtain ⟨h_cm, h_co, h_bf, h_sv, h_hi, h_hf, h_dk, h_se, h_pg, h_sb, h_sa, h_pr, h_ln, h_la, h_mo, h_out, h_outD⟩ := hW
  have hP0 := hP
  obtain ⟨⟨hD, hDv, hDh⟩, ⟨hRM, hch, hcs⟩, ⟨⟨n0, n1⟩, ⟨s0, s1⟩, hhs⟩, ⟨hm8, hnn, hAg, hNN, hnN, hf9⟩, ⟨T, hSB, hLT, hn38⟩, hPB, ⟨her, hfa, hss, ger, gfa, gss, gms⟩, ⟨gpo, gsi⟩, ⟨hv1, hv2, hvv⟩⟩ := hP
  have hO := hD.inv.ok
  have hI := hD.inv.ts
  have hSt := hD.inv.st
  have hS := hD.inv.sn
  have hR := hRM.1.2
  have hG := gp_inv hD
  have hb0 := hO.b0
  have hbw := hO.bw
  have hbf : ¬ Fr [] s.heap.size b := fun z => z.elim (fun q => q.elim) (fun q => by omega)
  have hlt := LT.at hSB.2.2.2 hLT
  have hn6 := hlt.1
  have hsb1 := hSB.1
  have hsb2 := hSB.2.1
  have hsb3 := hSB.2.2.1
  have hsn := hSB.n0
  have hcr9 : ∀ j : Int, 0 ≤ j → j < mo 0 6 → 0 ≤ mo 2 j ∧ mo 2 j < 128 := fun j j0 j1 => by rw [← hlt.2 j j0 (by omega)]; exact hsb3 j
  refine v_aload_n X dL_law_3144 3145 rfl 4 rfl ?_
  refine v_aload_n X dL_law_3145 3146 rfl 5 rfl ?_
  refine v_iload X dL_law_3146 3148 rfl 0 rfl ?_
  refine v_iconst X dL_law_3148 3149 rfl ?_
  refine v_iadd X dL_law_3149 3150 rfl ?_
  refine v_scr X hM hX hbl hbf (by omega) (by omega) hLx ha1 dL_law_3150 3151 rfl ?_
  refine v_aload_n X dL_law_3151 3152 rfl 2 rfl ?_
  refine v_mwS X hM (w_X9_lineChar l hl E x hs er fa ss v2 N2 f2 ml2 n2 a1 (x + 339) lg q0 q1 (by omega) (by omega) hsb3 (by omega) (by omega) (by omega)) kwL_lineChar ksL_lineChar kl_L_370 (As := [.ref x, .int (zI a1), .ref (x + 339)]) rfl rfl (rm_lawW rfl (by omega) (by omega)) dL_law_3152 3155 rfl (k' := kq + 0) (n' := nq + 0) rfl rfl (fsI (fun q q1 q2 => (Or.inr (by omega)))) ⟨h_cm, h_ln, h_la, h_out⟩ (fun rv H1 lo1 hM hF hpo => ?_)
  obtain ⟨rfl, hw_0⟩ := hpo
  have h_out : PR E (x + 339) [(x + 339, .inl (E 102 4, 1, .inr (.inl (fun _ => zL (f2 a1)))))] H1 := hw_0
  replace hzl := Nat.le_trans hzl hF.1
  replace h_cm := h_cm.kept hF 1 rfl (fsd (by omega))
  replace h_co := h_co.kept hF 28 rfl (fsd (by omega))
  replace h_bf := h_bf.kept hF 28 rfl (fsd (by omega))
  replace h_sv := h_sv.kept hF 28 rfl (fsd (by omega))
  replace h_hi := h_hi.kept hF 2 rfl (fsd (by omega))
  replace h_hf := h_hf.kept hF (fsd (by omega))
  replace h_dk := h_dk.kept hF 3 rfl (fsd (by omega))
  replace h_se := h_se.kept hF 5 rfl (fsd (by omega))
  replace h_pg := h_pg.kept hF 1 rfl (fsd (by omega))
  replace h_sb := h_sb.kept hF 1 rfl (fsd (by omega))
  replace h_sa := h_sa.kept hF 1 rfl (fsd (by omega))
  replace h_pr := h_pr.kept hF 10 rfl (fsd (by omega))
  replace h_ln := h_ln.kept hF 1 rfl (fsd (by omega))
  replace h_la := h_la.kept hF 1 rfl (fsd (by omega))
  replace h_mo := h_mo.kept hF 5 rfl (fsd (by omega))
  replace h_outD := h_outD.kept hF 1 rfl (fsd (by omega))
  show V p l e room_1 s m args below meth cd Q 9 H1 lo1 kq nq 3155 [(5, .int (zI i)), (4, .ref (x + 340)), (3, .ref (x + 339)), (2, .ref (x + 334)), (1, .ref x), (0, .ref b)] [.int (zI 0)]
  refine v_istore X dL_law_3155 3157 rfl (by decide) (L' := [(6, .int (zI 0)), (5, .int (zI i)), (4, .ref (x + 340)), (3, .ref (x + 339)), (2, .ref (x + 334)), (1, .ref x), (0, .ref b)]) rfl ?_
  refine v_aload_n X dL_law_3157 3158 rfl 4 rfl ?_
  refine v_aload_n X dL_law_3158 3159 rfl 6 rfl ?_
  refine v_iload X dL_law_3159 3161 rfl 1 rfl ?_
  refine v_iconst X dL_law_3161 3162 rfl ?_
  refine v_iadd X dL_law_3162 3163 rfl ?_
  refine v_scr X hM hX hbl hbf (by omega) (by omega) hLx ha1 dL_law_3163 3164 rfl ?_
  refine v_muV X hM (h_mo.1) (c_X10_lineChar l E (x + 334) mo a1 ga1 (by omega) hcr9 (by omega)) kvX10_lineChar kiX10_lineChar kl_L_372 (q0 := 0) rfl rfl (As := [.int (zI a1)]) rfl rfl (rm_law rfl (by omega) (by omega)) dL_law_3164 3167 rfl (k' := kq + 0) (n' := nq + 0) rfl rfl (fsI (fun q q1 q2 => (Or.inr (by omega)))) h_mo (fun rv H2 lo2 hM hF hpo => ?_)
  obtain ⟨rfl, hw_0⟩ := hpo
  have h_mo : PR E (x + 334) (modelW E (x + 334) (updC mo 0 (updZ (mo 0) 0 0))) H2 := hw_0
  replace hzl := Nat.le_trans hzl hF.1
  replace h_cm := h_cm.kept hF 1 rfl (fsd (by omega))
  replace h_co := h_co.kept hF 28 rfl (fsd (by omega))
  replace h_bf := h_bf.kept hF 28 rfl (fsd (by omega))
  replace h_sv := h_sv.kept hF 28 rfl (fsd (by omega))
  replace h_hi := h_hi.kept hF 2 rfl (fsd (by omega))
  replace h_hf := h_hf.kept hF (fsd (by omega))
  replace h_dk := h_dk.kept hF 3 rfl (fsd (by omega))
  replace h_se := h_se.kept hF 5 rfl (fsd (by omega))
  replace h_pg := h_pg.kept hF 1 rfl (fsd (by omega))
  replace h_sb := h_sb.kept hF 1 rfl (fsd (by omega))
  replace h_sa := h_sa.kept hF 1 rfl (fsd (by omega))
  replace h_pr := h_pr.kept hF 10 rfl (fsd (by omega))
  replace h_ln := h_ln.kept hF 1 rfl (fsd (by omega))
  replace h_la := h_la.kept hF 1 rfl (fsd (by omega))
  replace h_out := h_out.kept hF 1 rfl (fsd (by omega))
  replace h_outD := h_outD.kept hF 1 rfl (fsd (by omega))
  show V p l e room_1 s m args below meth cd Q 9 H2 lo2 kq nq 3167 [(6, .int (zI 0)), (5, .int (zI i)), (4, .ref (x + 340)), (3, .ref (x + 339)), (2, .ref (x + 334)), (1, .ref x), (0, .ref b)] [.int (zI (mo 2 a1))]
  refine v_istore X dL_law_3167 3169 rfl (by decide) (L' := [(7, .int (zI (mo 2 a1))), (6, .int (zI 0)), (5, .int (zI i)), (4, .ref (x + 340)), (3, .ref (x + 339)), (2, .ref (x + 334)), (1, .ref x), (0, .ref b)]) rfl ?_
  refine v_aload_n X dL_law_3169 3170 rfl 5 rfl ?_
  refine v_rdV X hM.C h_mo.1 (c_X10_thrown l E (x + 334) (updC mo 0 (updZ (mo 0) 0 0))) kvX10_thrown kiX10_thrown kl_L_196 rfl rfl (As := []) rfl rfl (rm_law0 rfl (by omega) (by omega)) dL_law_3170 3173 rfl ?_
  show V p l e room_1 s m args below meth cd Q 9 H2 lo2 kq nq 3173 [(7, .int (zI (mo 2 a1))), (6, .int (zI 0)), (5, .int (zI i)), (4, .ref (x + 340)), (3, .ref (x + 339)), (2, .ref (x + 334)), (1, .ref x), (0, .ref b)] [.int (zI 0)]
  refine v_iload X dL_law_3173 3175 rfl 1 rfl ?_
  refine v_icmp_eq X (by omega) (by omega) dL_law_3175 3178 3180 rfl (by decide) (fun c_3 => ?_) (fun c_3 => ?_)
  · skip
    refine v_iload X dL_law_3180 3182 rfl 1 rfl ?_
    refine v_if_ne X (by omega) dL_law_3182 3185 3197 rfl (by decide) (fun c_4 => ?_) (fun c_4 => ?_)
    · skip
      exfalso; omega
    · skip
      refine v_aload_n X dL_law_3185 3186 rfl 4 rfl ?_
      refine v_iconst X dL_law_3186 3187 rfl ?_
      refine v_lald X hM.C h_out.1 0 rfl dL_law_3187 3188 rfl ?_
      show V p l e room_1 s m args below meth cd Q 9 H2 lo2 kq nq 3188 [(7, .int (zI (mo 2 a1))), (6, .int (zI 0)), (5, .int (zI i)), (4, .ref (x + 340)), (3, .ref (x + 339)), (2, .ref (x + 334)), (1, .ref x), (0, .ref b)] [.long (zL (f2 a1))]
      refine v_iload X dL_law_3188 3190 rfl 0 rfl ?_
      refine v_i2l X dL_law_3190 3191 rfl ?_
      refine V_S (st' := [.long (zL (mo 2 a1)), .long (zL (mo 2 a1))]) (by rw [show (f2 a1 : Int) = mo 2 a1 from hlt.2 a1 q0 q1]) ?_
      refine v_lcmp0 X dL_law_3191 3192 rfl ?_
      refine v_if_eq X (by omega) dL_law_3192 3195 3197 rfl (by decide) (fun c_5 => ?_) (fun c_5 => ?_)
      · skip
        refine v_goto X dL_law_3197 3555 (by decide) ?_
        refine v_widen (k' := kq + 60) (n' := nq + 4000) (by omega) (by omega) ?_
        exact V_pick [2, 3, 4, 5, 6, 7] rfl (kk _ _ hM ⟨hzl, _, _, _, _, _, _, _, _, _, _, _, _, _, _, _, _, _, _, _, _, _, _, _, _, _, _, _, _, ⟨h_cm, h_co, h_bf, h_sv, h_hi, h_hf, h_dk, h_se, h_pg, h_sb, h_sa, h_pr, h_ln, h_la, h_mo, h_out, h_outD⟩, hP0.mo_0⟩)
      · skip
        exfalso; omega
  · skip
    exfalso; omega
set_option maxHeartbeats 4000000 in
set_option maxRecDepth 20000 in
theorem lo_lineChar_1 (hl : l.stackTraces = false) (X : CF p m cd code 9 s args RL) (hX : va_X b Lx xs s s.heap) (hbl : b < s.heap.size) (hLx : Lx ≤ 2560) (hM : MS E [] s H lo) (hk : kq + 60 ≤ 603072) (hn : nq + 4000 ≤ 7211113) (hx : s.heap.size ≤ x) (hzl : x + 341 ≤ H.size) {v : Nat} {N : Nat} {f : Int → Int} {nn : Int} {v2 : Nat} {N2 : Nat} {f2 : Int → Int} {n2 : Int} {co : Nat → Int → Int} {bf : Nat → Int → Int} {cv : Nat → Int → Int} {hc : Nat → Nat → Int → Int} {nx : Int} {sz : Int} {hs : Int} {er : Int} {fa : Int} {ss : Int} {dk : Nat → Int → Int} {se : Nat → Int → Int} {po : Int} {si : Int} {pr : Nat → Int → Int} {ml : Int} {ml2 : Int} {mo : Nat → Int → Int} {lg : Nat → Int64} {dg : Nat → UInt64} (hW : LawW E x v N f nn v2 N2 f2 n2 co bf cv hc nx sz hs er fa ss dk se po si pr ml ml2 mo lg dg H) (hP : LawP x v N f nn v2 N2 f2 n2 co cv hc nx sz hs er fa ss po si pr mo) (i0 : 0 ≤ i) (i1 : i + 5 ≤ (Lx : Int)) {a1 : Int} (ha1 : (xs (i + 1).toNat).toInt = a1) (ga1 : Rg a1) (q0 : ¬ (0 ≤ a1 ∧ a1 < n2)) (kk : ∀ (H1 : Heap) (lo1 : List Loc), MS E [] s H1 lo1 → LawI E x H1 → V p l e room_1 s m args below meth cd Q 9 H1 lo1 (kq + 60) (nq + 4000) 3555 [(5, .int (zI i)), (4, .ref (x + 340)), (3, .ref (x + 339)), (2, .ref (x + 334)), (1, .ref x), (0, .ref b)] []) : V p l e room_1 s m args below meth cd Q 9 H lo kq nq 3144 [(5, .int (zI i)), (4, .ref (x + 340)), (3, .ref (x + 339)), (2, .ref (x + 334)), (1, .ref x), (0, .ref b)] [] := by
  obtain ⟨h_cm, h_co, h_bf, h_sv, h_hi, h_hf, h_dk, h_se, h_pg, h_sb, h_sa, h_pr, h_ln, h_la, h_mo, h_out, h_outD⟩ := hW
  have hP0 := hP
  obtain ⟨⟨hD, hDv, hDh⟩, ⟨hRM, hch, hcs⟩, ⟨⟨n0, n1⟩, ⟨s0, s1⟩, hhs⟩, ⟨hm8, hnn, hAg, hNN, hnN, hf9⟩, ⟨T, hSB, hLT, hn38⟩, hPB, ⟨her, hfa, hss, ger, gfa, gss, gms⟩, ⟨gpo, gsi⟩, ⟨hv1, hv2, hvv⟩⟩ := hP
  have hO := hD.inv.ok
  have hI := hD.inv.ts
  have hSt := hD.inv.st
  have hS := hD.inv.sn
  have hR := hRM.1.2
  have hG := gp_inv hD
  have hb0 := hO.b0
  have hbw := hO.bw
  have hbf : ¬ Fr [] s.heap.size b := fun z => z.elim (fun q => q.elim) (fun q => by omega)
  have hlt := LT.at hSB.2.2.2 hLT
  have hn6 := hlt.1
  have hsb1 := hSB.1
  have hsb2 := hSB.2.1
  have hsb3 := hSB.2.2.1
  have hsn := hSB.n0
  have hcr9 : ∀ j : Int, 0 ≤ j → j < mo 0 6 → 0 ≤ mo 2 j ∧ mo 2 j < 128 := fun j j0 j1 => by rw [← hlt.2 j j0 (by omega)]; exact hsb3 j
  refine v_aload_n X dL_law_3144 3145 rfl 4 rfl ?_
  refine v_aload_n X dL_law_3145 3146 rfl 5 rfl ?_
  refine v_iload X dL_law_3146 3148 rfl 0 rfl ?_
  refine v_iconst X dL_law_3148 3149 rfl ?_
  refine v_iadd X dL_law_3149 3150 rfl ?_
  refine v_scr X hM hX hbl hbf (by omega) (by omega) hLx ha1 dL_law_3150 3151 rfl ?_
  refine v_aload_n X dL_law_3151 3152 rfl 2 rfl ?_
  refine v_mwS X hM (w_X9_lineChar_0_t l hl E x hs er fa ss v2 N2 f2 ml2 n2 a1 (x + 339) lg ga1 q0 (by omega) (by omega) (by omega)) kwL_lineChar ksL_lineChar kl_L_370 (As := [.ref x, .int (zI a1), .ref (x + 339)]) rfl rfl (rm_lawW rfl (by omega) (by omega)) dL_law_3152 3155 rfl (k' := kq + 1) (n' := nq + 6) rfl rfl (fun q hq => hq.elim) ⟨h_cm, h_ln, h_out⟩ (fun rv H1 lo1 hM hF hpo => ?_)
  subst hpo
  replace hzl := Nat.le_trans hzl hF.1
  replace h_cm := h_cm.kept hF 1 rfl (fun q _ _ h => h.elim)
  replace h_co := h_co.kept hF 28 rfl (fun q _ _ h => h.elim)
  replace h_bf := h_bf.kept hF 28 rfl (fun q _ _ h => h.elim)
  replace h_sv := h_sv.kept hF 28 rfl (fun q _ _ h => h.elim)
  replace h_hi := h_hi.kept hF 2 rfl (fun q _ _ h => h.elim)
  replace h_hf := h_hf.kept hF (fun q _ _ h => h.elim)
  replace h_dk := h_dk.kept hF 3 rfl (fun q _ _ h => h.elim)
  replace h_se := h_se.kept hF 5 rfl (fun q _ _ h => h.elim)
  replace h_pg := h_pg.kept hF 1 rfl (fun q _ _ h => h.elim)
  replace h_sb := h_sb.kept hF 1 rfl (fun q _ _ h => h.elim)
  replace h_sa := h_sa.kept hF 1 rfl (fun q _ _ h => h.elim)
  replace h_pr := h_pr.kept hF 10 rfl (fun q _ _ h => h.elim)
  replace h_ln := h_ln.kept hF 1 rfl (fun q _ _ h => h.elim)
  replace h_la := h_la.kept hF 1 rfl (fun q _ _ h => h.elim)
  replace h_mo := h_mo.kept hF 5 rfl (fun q _ _ h => h.elim)
  replace h_out := h_out.kept hF 1 rfl (fun q _ _ h => h.elim)
  replace h_outD := h_outD.kept hF 1 rfl (fun q _ _ h => h.elim)
  show V p l e room_1 s m args below meth cd Q 9 H1 lo1 (kq + 1) (nq + 6) 3155 [(5, .int (zI i)), (4, .ref (x + 340)), (3, .ref (x + 339)), (2, .ref (x + 334)), (1, .ref x), (0, .ref b)] [.int (zI 1)]
  refine v_istore X dL_law_3155 3157 rfl (by decide) (L' := [(6, .int (zI 1)), (5, .int (zI i)), (4, .ref (x + 340)), (3, .ref (x + 339)), (2, .ref (x + 334)), (1, .ref x), (0, .ref b)]) rfl ?_
  refine v_aload_n X dL_law_3157 3158 rfl 4 rfl ?_
  refine v_aload_n X dL_law_3158 3159 rfl 6 rfl ?_
  refine v_iload X dL_law_3159 3161 rfl 1 rfl ?_
  refine v_iconst X dL_law_3161 3162 rfl ?_
  refine v_iadd X dL_law_3162 3163 rfl ?_
  refine v_scr X hM hX hbl hbf (by omega) (by omega) hLx ha1 dL_law_3163 3164 rfl ?_
  refine v_muV X hM (h_mo.1) (c_X10_lineChar_0 l E (x + 334) mo a1 ga1 (by omega) hcr9 (by omega)) kvX10_lineChar kiX10_lineChar kl_L_372 (q0 := 0) rfl rfl (As := [.int (zI a1)]) rfl rfl (rm_law rfl (by omega) (by omega)) dL_law_3164 3167 rfl (k' := kq + 1) (n' := nq + 6) rfl rfl (fsI (fun q q1 q2 => (Or.inr (by omega)))) h_mo (fun rv H2 lo2 hM hF hpo => ?_)
  obtain ⟨rfl, hw_0⟩ := hpo
  have h_mo : PR E (x + 334) (modelW E (x + 334) (updC mo 0 (updZ (mo 0) 0 1))) H2 := hw_0
  replace hzl := Nat.le_trans hzl hF.1
  replace h_cm := h_cm.kept hF 1 rfl (fsd (by omega))
  replace h_co := h_co.kept hF 28 rfl (fsd (by omega))
  replace h_bf := h_bf.kept hF 28 rfl (fsd (by omega))
  replace h_sv := h_sv.kept hF 28 rfl (fsd (by omega))
  replace h_hi := h_hi.kept hF 2 rfl (fsd (by omega))
  replace h_hf := h_hf.kept hF (fsd (by omega))
  replace h_dk := h_dk.kept hF 3 rfl (fsd (by omega))
  replace h_se := h_se.kept hF 5 rfl (fsd (by omega))
  replace h_pg := h_pg.kept hF 1 rfl (fsd (by omega))
  replace h_sb := h_sb.kept hF 1 rfl (fsd (by omega))
  replace h_sa := h_sa.kept hF 1 rfl (fsd (by omega))
  replace h_pr := h_pr.kept hF 10 rfl (fsd (by omega))
  replace h_ln := h_ln.kept hF 1 rfl (fsd (by omega))
  replace h_la := h_la.kept hF 1 rfl (fsd (by omega))
  replace h_out := h_out.kept hF 1 rfl (fsd (by omega))
  replace h_outD := h_outD.kept hF 1 rfl (fsd (by omega))
  show V p l e room_1 s m args below meth cd Q 9 H2 lo2 (kq + 1) (nq + 6) 3167 [(6, .int (zI 1)), (5, .int (zI i)), (4, .ref (x + 340)), (3, .ref (x + 339)), (2, .ref (x + 334)), (1, .ref x), (0, .ref b)] [.int (zI 0)]
  refine v_istore X dL_law_3167 3169 rfl (by decide) (L' := [(7, .int (zI 0)), (6, .int (zI 1)), (5, .int (zI i)), (4, .ref (x + 340)), (3, .ref (x + 339)), (2, .ref (x + 334)), (1, .ref x), (0, .ref b)]) rfl ?_
  refine v_aload_n X dL_law_3169 3170 rfl 5 rfl ?_
  refine v_rdV X hM.C h_mo.1 (c_X10_thrown l E (x + 334) (updC mo 0 (updZ (mo 0) 0 1))) kvX10_thrown kiX10_thrown kl_L_196 rfl rfl (As := []) rfl rfl (rm_law0 rfl (by omega) (by omega)) dL_law_3170 3173 rfl ?_
  show V p l e room_1 s m args below meth cd Q 9 H2 lo2 (kq + 1) (nq + 6) 3173 [(7, .int (zI 0)), (6, .int (zI 1)), (5, .int (zI i)), (4, .ref (x + 340)), (3, .ref (x + 339)), (2, .ref (x + 334)), (1, .ref x), (0, .ref b)] [.int (zI 1)]
  refine v_iload X dL_law_3173 3175 rfl 1 rfl ?_
  refine v_icmp_eq X (by omega) (by omega) dL_law_3175 3178 3180 rfl (by decide) (fun c_3 => ?_) (fun c_3 => ?_)
  · skip
    refine v_iload X dL_law_3180 3182 rfl 1 rfl ?_
    refine v_if_ne X (by omega) dL_law_3182 3185 3197 rfl (by decide) (fun c_4 => ?_) (fun c_4 => ?_)
    · skip
      refine v_goto X dL_law_3197 3555 (by decide) ?_
      refine v_widen (k' := kq + 60) (n' := nq + 4000) (by omega) (by omega) ?_
      exact V_pick [2, 3, 4, 5, 6, 7] rfl (kk _ _ hM ⟨hzl, _, _, _, _, _, _, _, _, _, _, _, _, _, _, _, _, _, _, _, _, _, _, _, _, _, _, _, _, ⟨h_cm, h_co, h_bf, h_sv, h_hi, h_hf, h_dk, h_se, h_pg, h_sb, h_sa, h_pr, h_ln, h_la, h_mo, h_out, h_outD⟩, hP0.mo_0⟩)
    · skip
      exfalso; omega
  · skip
    exfalso; omega
set_option maxHeartbeats 4000000 in
set_option maxRecDepth 20000 in
theorem lo_append (hl : l.stackTraces = false) (X : CF p m cd code 9 s args RL) (hX : va_X b Lx xs s s.heap) (hbl : b < s.heap.size) (hLx : Lx ≤ 2560) (hM : MS E [] s H lo) (hk : kq + 60 ≤ 603072) (hn : nq + 4000 ≤ 7211113) (hx : s.heap.size ≤ x) (hzl : x + 341 ≤ H.size) {v : Nat} {N : Nat} {f : Int → Int} {nn : Int} {v2 : Nat} {N2 : Nat} {f2 : Int → Int} {n2 : Int} {co : Nat → Int → Int} {bf : Nat → Int → Int} {cv : Nat → Int → Int} {hc : Nat → Nat → Int → Int} {nx : Int} {sz : Int} {hs : Int} {er : Int} {fa : Int} {ss : Int} {dk : Nat → Int → Int} {se : Nat → Int → Int} {po : Int} {si : Int} {pr : Nat → Int → Int} {ml : Int} {ml2 : Int} {mo : Nat → Int → Int} {lg : Nat → Int64} {dg : Nat → UInt64} (hW : LawW E x v N f nn v2 N2 f2 n2 co bf cv hc nx sz hs er fa ss dk se po si pr ml ml2 mo lg dg H) (hP : LawP x v N f nn v2 N2 f2 n2 co cv hc nx sz hs er fa ss po si pr mo) (i0 : 0 ≤ i) (i1 : i + 5 ≤ (Lx : Int)) {a1 ch : Int} (ha1 : (xs (i + 1).toNat).toInt = a1) (ga1 : Rg a1) (hch1 : (((zI a1).toUInt32 % 65536).toInt32).toInt = ch) (gc : 0 ≤ ch ∧ ch < 65536) (q0 : 32 ≤ ch ∧ ch ≤ 126) (q1 : nn < 60) (kk : ∀ (H1 : Heap) (lo1 : List Loc), MS E [] s H1 lo1 → LawI E x H1 → V p l e room_1 s m args below meth cd Q 9 H1 lo1 (kq + 60) (nq + 4000) 3555 [(5, .int (zI i)), (4, .ref (x + 340)), (3, .ref (x + 339)), (2, .ref (x + 334)), (1, .ref x), (0, .ref b)] []) : V p l e room_1 s m args below meth cd Q 9 H lo kq nq 3200 [(5, .int (zI i)), (4, .ref (x + 340)), (3, .ref (x + 339)), (2, .ref (x + 334)), (1, .ref x), (0, .ref b)] [] := by
  obtain ⟨h_cm, h_co, h_bf, h_sv, h_hi, h_hf, h_dk, h_se, h_pg, h_sb, h_sa, h_pr, h_ln, h_la, h_mo, h_out, h_outD⟩ := hW
  have hP0 := hP
  obtain ⟨⟨hD, hDv, hDh⟩, ⟨hRM, hch, hcs⟩, ⟨⟨n0, n1⟩, ⟨s0, s1⟩, hhs⟩, ⟨hm8, hnn, hAg, hNN, hnN, hf9⟩, ⟨T, hSB, hLT, hn38⟩, hPB, ⟨her, hfa, hss, ger, gfa, gss, gms⟩, ⟨gpo, gsi⟩, ⟨hv1, hv2, hvv⟩⟩ := hP
  have hO := hD.inv.ok
  have hI := hD.inv.ts
  have hSt := hD.inv.st
  have hS := hD.inv.sn
  have hR := hRM.1.2
  have hG := gp_inv hD
  have hb0 := hO.b0
  have hbw := hO.bw
  have hbf : ¬ Fr [] s.heap.size b := fun z => z.elim (fun q => q.elim) (fun q => by omega)
  refine v_aload_n X dL_law_3200 3201 rfl 4 rfl ?_
  refine v_aload_n X dL_law_3201 3202 rfl 5 rfl ?_
  refine v_iload X dL_law_3202 3204 rfl 0 rfl ?_
  refine v_iconst X dL_law_3204 3205 rfl ?_
  refine v_iadd X dL_law_3205 3206 rfl ?_
  refine v_scr X hM hX hbl hbf (by omega) (by omega) hLx ha1 dL_law_3206 3207 rfl ?_
  refine v_i2c X hch1 dL_law_3207 3208 rfl ?_
  refine v_aload_n X dL_law_3208 3209 rfl 2 rfl ?_
  have hzl9 := hzl
  have hvl : v < H.size := (h_sa.1 0 _ rfl).lt
  have hvl2 : v2 < H.size := (h_la.1 0 _ rfl).lt
  refine v_mwS X hM (w_X9_append l hl E x hs er fa ss v N f po si ml nn H.size ch (x + 339) lg (by omega) (by omega) (by omega) (by omega) q1 hNN hf9 (by omega) (by omega) (by omega) (by omega) (by omega) (by omega) (by omega) (by omega) (by omega) (by omega) (by omega)) kwL_append ksL_append kl_L_373 (As := [.ref x, .int (zI ch), .ref (x + 339)]) rfl rfl (rm_lawW rfl (by omega) (by omega)) dL_law_3209 3212 rfl (k' := kq + 1) (n' := nq + 70) rfl rfl (by intro q hq; simp only [Fr, Fs, or_false, false_or] at hq ⊢; omega) ⟨h_cm, h_pg, h_sb, h_sa, h_out, (by omega)⟩ (fun rv H1 lo1 hM hF hpo => ?_)
  obtain ⟨v1_2, N1_3, f1_4, rfl, hp_f_5, hp_f_6, hp_f_7, hp_f_8, hp_f_9, hp_f_10, hw_0, hw_1, hw_2⟩ := hpo
  have h_sb : PR E (x + 320) [(x + 320, .inr (1, [.ref v1_2, .int (zI 0), .int (zI ml), .int (zI (nn + 1))]))] H1 := hw_0
  have h_sa : PR E v1_2 [(v1_2, .inl (E 102 2, N1_3, .inl (zA f1_4)))] H1 := hw_1
  have h_out : PR E (x + 339) [(x + 339, .inl (E 102 4, 1, .inr (.inl (fun _ => zL (nn + 1)))))] H1 := hw_2
  replace hzl := Nat.le_trans hzl hF.1
  replace h_cm := h_cm.kept hF 1 rfl (by intro q q1 q2 q3; simp only [Fs, or_false] at q3; omega)
  replace h_co := h_co.kept hF 28 rfl (by intro q q1 q2 q3; simp only [Fs, or_false] at q3; omega)
  replace h_bf := h_bf.kept hF 28 rfl (by intro q q1 q2 q3; simp only [Fs, or_false] at q3; omega)
  replace h_sv := h_sv.kept hF 28 rfl (by intro q q1 q2 q3; simp only [Fs, or_false] at q3; omega)
  replace h_hi := h_hi.kept hF 2 rfl (by intro q q1 q2 q3; simp only [Fs, or_false] at q3; omega)
  replace h_hf := h_hf.kept hF (by intro q q1 q2 q3; simp only [Fs, or_false] at q3; omega)
  replace h_dk := h_dk.kept hF 3 rfl (by intro q q1 q2 q3; simp only [Fs, or_false] at q3; omega)
  replace h_se := h_se.kept hF 5 rfl (by intro q q1 q2 q3; simp only [Fs, or_false] at q3; omega)
  replace h_pg := h_pg.kept hF 1 rfl (by intro q q1 q2 q3; simp only [Fs, or_false] at q3; omega)
  replace h_pr := h_pr.kept hF 10 rfl (by intro q q1 q2 q3; simp only [Fs, or_false] at q3; omega)
  replace h_ln := h_ln.kept hF 1 rfl (by intro q q1 q2 q3; simp only [Fs, or_false] at q3; omega)
  replace h_la := h_la.kept hF 1 rfl (by intro q q1 q2 q3; simp only [Fs, or_false] at q3; omega)
  replace h_mo := h_mo.kept hF 5 rfl (by intro q q1 q2 q3; simp only [Fs, or_false] at q3; omega)
  replace h_outD := h_outD.kept hF 1 rfl (by intro q q1 q2 q3; simp only [Fs, or_false] at q3; omega)
  show V p l e room_1 s m args below meth cd Q 9 H1 lo1 (kq + 1) (nq + 70) 3212 [(5, .int (zI i)), (4, .ref (x + 340)), (3, .ref (x + 339)), (2, .ref (x + 334)), (1, .ref x), (0, .ref b)] [.int (zI 0)]
  refine v_istore X dL_law_3212 3214 rfl (by decide) (L' := [(6, .int (zI 0)), (5, .int (zI i)), (4, .ref (x + 340)), (3, .ref (x + 339)), (2, .ref (x + 334)), (1, .ref x), (0, .ref b)]) rfl ?_
  refine v_aload_n X dL_law_3214 3215 rfl 4 rfl ?_
  refine v_aload_n X dL_law_3215 3216 rfl 6 rfl ?_
  refine v_iload X dL_law_3216 3218 rfl 1 rfl ?_
  refine v_iconst X dL_law_3218 3219 rfl ?_
  refine v_iadd X dL_law_3219 3220 rfl ?_
  refine v_scr X hM hX hbl hbf (by omega) (by omega) hLx ha1 dL_law_3220 3221 rfl ?_
  refine v_i2c X hch1 dL_law_3221 3222 rfl ?_
  refine v_muV X hM (h_mo.1) (c_X10_append l E (x + 334) mo ch gc (by omega) q0 (by omega)) kvX10_append kiX10_append kl_L_376 (q0 := 0) rfl rfl (As := [.int (zI ch)]) rfl rfl (rm_law rfl (by omega) (by omega)) dL_law_3222 3225 rfl (k' := kq + 1) (n' := nq + 70) rfl rfl (fsI (fun q q1 q2 => (Or.inr (by omega)))) h_mo (fun rv H11 lo11 hM hF hpo => ?_)
  obtain ⟨rfl, hw_0⟩ := hpo
  have h_mo : PR E (x + 334) (modelW E (x + 334) (updC (updC mo 0 (updZ (updZ (mo 0) 0 0) 8 (mo 0 8 + 1))) 3 (updZ ((mo 3)) (mo 0 8) ch))) H11 := hw_0
  replace hzl := Nat.le_trans hzl hF.1
  replace h_cm := h_cm.kept hF 1 rfl (fsd (by omega))
  replace h_co := h_co.kept hF 28 rfl (fsd (by omega))
  replace h_bf := h_bf.kept hF 28 rfl (fsd (by omega))
  replace h_sv := h_sv.kept hF 28 rfl (fsd (by omega))
  replace h_hi := h_hi.kept hF 2 rfl (fsd (by omega))
  replace h_hf := h_hf.kept hF (fsd (by omega))
  replace h_dk := h_dk.kept hF 3 rfl (fsd (by omega))
  replace h_se := h_se.kept hF 5 rfl (fsd (by omega))
  replace h_pg := h_pg.kept hF 1 rfl (fsd (by omega))
  replace h_sb := h_sb.kept hF 1 rfl (fsd (by omega))
  replace h_sa := h_sa.kept hF 1 rfl (fsd (by omega))
  replace h_pr := h_pr.kept hF 10 rfl (fsd (by omega))
  replace h_ln := h_ln.kept hF 1 rfl (fsd (by omega))
  replace h_la := h_la.kept hF 1 rfl (fsd (by omega))
  replace h_out := h_out.kept hF 1 rfl (fsd (by omega))
  replace h_outD := h_outD.kept hF 1 rfl (fsd (by omega))
  show V p l e room_1 s m args below meth cd Q 9 H11 lo11 (kq + 1) (nq + 70) 3225 [(6, .int (zI 0)), (5, .int (zI i)), (4, .ref (x + 340)), (3, .ref (x + 339)), (2, .ref (x + 334)), (1, .ref x), (0, .ref b)] [.int (zI (mo 0 8 + 1))]
  refine v_istore X dL_law_3225 3227 rfl (by decide) (L' := [(7, .int (zI (mo 0 8 + 1))), (6, .int (zI 0)), (5, .int (zI i)), (4, .ref (x + 340)), (3, .ref (x + 339)), (2, .ref (x + 334)), (1, .ref x), (0, .ref b)]) rfl ?_
  refine v_aload_n X dL_law_3227 3228 rfl 5 rfl ?_
  refine v_rdV X hM.C h_mo.1 (c_X10_thrown l E (x + 334) (updC (updC mo 0 (updZ (updZ (mo 0) 0 0) 8 (mo 0 8 + 1))) 3 (updZ ((mo 3)) (mo 0 8) ch))) kvX10_thrown kiX10_thrown kl_L_196 rfl rfl (As := []) rfl rfl (rm_law0 rfl (by omega) (by omega)) dL_law_3228 3231 rfl ?_
  show V p l e room_1 s m args below meth cd Q 9 H11 lo11 (kq + 1) (nq + 70) 3231 [(7, .int (zI (mo 0 8 + 1))), (6, .int (zI 0)), (5, .int (zI i)), (4, .ref (x + 340)), (3, .ref (x + 339)), (2, .ref (x + 334)), (1, .ref x), (0, .ref b)] [.int (zI 0)]
  refine v_iload X dL_law_3231 3233 rfl 1 rfl ?_
  refine v_icmp_eq X (by omega) (by omega) dL_law_3233 3236 3238 rfl (by decide) (fun c_12 => ?_) (fun c_12 => ?_)
  · skip
    refine v_iload X dL_law_3238 3240 rfl 1 rfl ?_
    refine v_if_ne X (by omega) dL_law_3240 3243 3255 rfl (by decide) (fun c_13 => ?_) (fun c_13 => ?_)
    · skip
      exfalso; omega
    · skip
      refine v_aload_n X dL_law_3243 3244 rfl 4 rfl ?_
      refine v_iconst X dL_law_3244 3245 rfl ?_
      refine v_lald X hM.C h_out.1 0 rfl dL_law_3245 3246 rfl ?_
      show V p l e room_1 s m args below meth cd Q 9 H11 lo11 (kq + 1) (nq + 70) 3246 [(7, .int (zI (mo 0 8 + 1))), (6, .int (zI 0)), (5, .int (zI i)), (4, .ref (x + 340)), (3, .ref (x + 339)), (2, .ref (x + 334)), (1, .ref x), (0, .ref b)] [.long (zL (nn + 1))]
      refine v_iload X dL_law_3246 3248 rfl 0 rfl ?_
      refine v_i2l X dL_law_3248 3249 rfl ?_
      refine V_S (st' := [.long (zL (mo 0 8 + 1)), .long (zL (mo 0 8 + 1))]) (by rw [show (nn + 1 : Int) = mo 0 8 + 1 from (by omega)]) ?_
      refine v_lcmp0 X dL_law_3249 3250 rfl ?_
      refine v_if_eq X (by omega) dL_law_3250 3253 3255 rfl (by decide) (fun c_14 => ?_) (fun c_14 => ?_)
      · skip
        refine v_goto X dL_law_3255 3555 (by decide) ?_
        refine v_widen (k' := kq + 60) (n' := nq + 4000) (by omega) (by omega) ?_
        exact V_pick [2, 3, 4, 5, 6, 7] rfl (kk _ _ hM ⟨hzl, _, _, _, _, _, _, _, _, _, _, _, _, _, _, _, _, _, _, _, _, _, _, _, _, _, _, _, _, ⟨h_cm, h_co, h_bf, h_sv, h_hi, h_hf, h_dk, h_se, h_pg, h_sb, h_sa, h_pr, h_ln, h_la, h_mo, h_out, h_outD⟩, (hP0.app (hp_f_5.elim Or.inl (fun z => Or.inr (by omega))) (by omega) q1 hp_f_6 hp_f_7 hp_f_8 hp_f_9 hp_f_10)⟩)
      · skip
        exfalso; omega
  · skip
    exfalso; omega
set_option maxHeartbeats 4000000 in
set_option maxRecDepth 20000 in
theorem lo_append_1 (hl : l.stackTraces = false) (X : CF p m cd code 9 s args RL) (hX : va_X b Lx xs s s.heap) (hbl : b < s.heap.size) (hLx : Lx ≤ 2560) (hM : MS E [] s H lo) (hk : kq + 60 ≤ 603072) (hn : nq + 4000 ≤ 7211113) (hx : s.heap.size ≤ x) (hzl : x + 341 ≤ H.size) {v : Nat} {N : Nat} {f : Int → Int} {nn : Int} {v2 : Nat} {N2 : Nat} {f2 : Int → Int} {n2 : Int} {co : Nat → Int → Int} {bf : Nat → Int → Int} {cv : Nat → Int → Int} {hc : Nat → Nat → Int → Int} {nx : Int} {sz : Int} {hs : Int} {er : Int} {fa : Int} {ss : Int} {dk : Nat → Int → Int} {se : Nat → Int → Int} {po : Int} {si : Int} {pr : Nat → Int → Int} {ml : Int} {ml2 : Int} {mo : Nat → Int → Int} {lg : Nat → Int64} {dg : Nat → UInt64} (hW : LawW E x v N f nn v2 N2 f2 n2 co bf cv hc nx sz hs er fa ss dk se po si pr ml ml2 mo lg dg H) (hP : LawP x v N f nn v2 N2 f2 n2 co cv hc nx sz hs er fa ss po si pr mo) (i0 : 0 ≤ i) (i1 : i + 5 ≤ (Lx : Int)) {a1 ch : Int} (ha1 : (xs (i + 1).toNat).toInt = a1) (ga1 : Rg a1) (hch1 : (((zI a1).toUInt32 % 65536).toInt32).toInt = ch) (gc : 0 ≤ ch ∧ ch < 65536) (q0 : ¬ (32 ≤ ch ∧ ch ≤ 126)) (kk : ∀ (H1 : Heap) (lo1 : List Loc), MS E [] s H1 lo1 → LawI E x H1 → V p l e room_1 s m args below meth cd Q 9 H1 lo1 (kq + 60) (nq + 4000) 3555 [(5, .int (zI i)), (4, .ref (x + 340)), (3, .ref (x + 339)), (2, .ref (x + 334)), (1, .ref x), (0, .ref b)] []) : V p l e room_1 s m args below meth cd Q 9 H lo kq nq 3200 [(5, .int (zI i)), (4, .ref (x + 340)), (3, .ref (x + 339)), (2, .ref (x + 334)), (1, .ref x), (0, .ref b)] [] := by
  obtain ⟨h_cm, h_co, h_bf, h_sv, h_hi, h_hf, h_dk, h_se, h_pg, h_sb, h_sa, h_pr, h_ln, h_la, h_mo, h_out, h_outD⟩ := hW
  have hP0 := hP
  obtain ⟨⟨hD, hDv, hDh⟩, ⟨hRM, hch, hcs⟩, ⟨⟨n0, n1⟩, ⟨s0, s1⟩, hhs⟩, ⟨hm8, hnn, hAg, hNN, hnN, hf9⟩, ⟨T, hSB, hLT, hn38⟩, hPB, ⟨her, hfa, hss, ger, gfa, gss, gms⟩, ⟨gpo, gsi⟩, ⟨hv1, hv2, hvv⟩⟩ := hP
  have hO := hD.inv.ok
  have hI := hD.inv.ts
  have hSt := hD.inv.st
  have hS := hD.inv.sn
  have hR := hRM.1.2
  have hG := gp_inv hD
  have hb0 := hO.b0
  have hbw := hO.bw
  have hbf : ¬ Fr [] s.heap.size b := fun z => z.elim (fun q => q.elim) (fun q => by omega)
  refine v_aload_n X dL_law_3200 3201 rfl 4 rfl ?_
  refine v_aload_n X dL_law_3201 3202 rfl 5 rfl ?_
  refine v_iload X dL_law_3202 3204 rfl 0 rfl ?_
  refine v_iconst X dL_law_3204 3205 rfl ?_
  refine v_iadd X dL_law_3205 3206 rfl ?_
  refine v_scr X hM hX hbl hbf (by omega) (by omega) hLx ha1 dL_law_3206 3207 rfl ?_
  refine v_i2c X hch1 dL_law_3207 3208 rfl ?_
  refine v_aload_n X dL_law_3208 3209 rfl 2 rfl ?_
  refine v_mwS X hM (w_X9_append_0_t l hl E x hs er fa ss v N f po si ml nn ch (x + 339) lg gc q0) kwL_append ksL_append kl_L_373 (As := [.ref x, .int (zI ch), .ref (x + 339)]) rfl rfl (rm_lawW rfl (by omega) (by omega)) dL_law_3209 3212 rfl (k' := kq + 1) (n' := nq + 6) rfl rfl (fun q hq => hq.elim) ⟨h_cm, h_out⟩ (fun rv H1 lo1 hM hF hpo => ?_)
  subst hpo
  replace hzl := Nat.le_trans hzl hF.1
  replace h_cm := h_cm.kept hF 1 rfl (fun q _ _ h => h.elim)
  replace h_co := h_co.kept hF 28 rfl (fun q _ _ h => h.elim)
  replace h_bf := h_bf.kept hF 28 rfl (fun q _ _ h => h.elim)
  replace h_sv := h_sv.kept hF 28 rfl (fun q _ _ h => h.elim)
  replace h_hi := h_hi.kept hF 2 rfl (fun q _ _ h => h.elim)
  replace h_hf := h_hf.kept hF (fun q _ _ h => h.elim)
  replace h_dk := h_dk.kept hF 3 rfl (fun q _ _ h => h.elim)
  replace h_se := h_se.kept hF 5 rfl (fun q _ _ h => h.elim)
  replace h_pg := h_pg.kept hF 1 rfl (fun q _ _ h => h.elim)
  replace h_sb := h_sb.kept hF 1 rfl (fun q _ _ h => h.elim)
  replace h_sa := h_sa.kept hF 1 rfl (fun q _ _ h => h.elim)
  replace h_pr := h_pr.kept hF 10 rfl (fun q _ _ h => h.elim)
  replace h_ln := h_ln.kept hF 1 rfl (fun q _ _ h => h.elim)
  replace h_la := h_la.kept hF 1 rfl (fun q _ _ h => h.elim)
  replace h_mo := h_mo.kept hF 5 rfl (fun q _ _ h => h.elim)
  replace h_out := h_out.kept hF 1 rfl (fun q _ _ h => h.elim)
  replace h_outD := h_outD.kept hF 1 rfl (fun q _ _ h => h.elim)
  show V p l e room_1 s m args below meth cd Q 9 H1 lo1 (kq + 1) (nq + 6) 3212 [(5, .int (zI i)), (4, .ref (x + 340)), (3, .ref (x + 339)), (2, .ref (x + 334)), (1, .ref x), (0, .ref b)] [.int (zI 1)]
  refine v_istore X dL_law_3212 3214 rfl (by decide) (L' := [(6, .int (zI 1)), (5, .int (zI i)), (4, .ref (x + 340)), (3, .ref (x + 339)), (2, .ref (x + 334)), (1, .ref x), (0, .ref b)]) rfl ?_
  refine v_aload_n X dL_law_3214 3215 rfl 4 rfl ?_
  refine v_aload_n X dL_law_3215 3216 rfl 6 rfl ?_
  refine v_iload X dL_law_3216 3218 rfl 1 rfl ?_
  refine v_iconst X dL_law_3218 3219 rfl ?_
  refine v_iadd X dL_law_3219 3220 rfl ?_
  refine v_scr X hM hX hbl hbf (by omega) (by omega) hLx ha1 dL_law_3220 3221 rfl ?_
  refine v_i2c X hch1 dL_law_3221 3222 rfl ?_
  refine v_muV X hM (h_mo.1) (c_X10_append_0 l E (x + 334) mo ch gc (by omega) q0) kvX10_append kiX10_append kl_L_376 (q0 := 0) rfl rfl (As := [.int (zI ch)]) rfl rfl (rm_law rfl (by omega) (by omega)) dL_law_3222 3225 rfl (k' := kq + 1) (n' := nq + 6) rfl rfl (fsI (fun q q1 q2 => (Or.inr (by omega)))) h_mo (fun rv H2 lo2 hM hF hpo => ?_)
  obtain ⟨rfl, hw_0⟩ := hpo
  have h_mo : PR E (x + 334) (modelW E (x + 334) (updC mo 0 (updZ (mo 0) 0 1))) H2 := hw_0
  replace hzl := Nat.le_trans hzl hF.1
  replace h_cm := h_cm.kept hF 1 rfl (fsd (by omega))
  replace h_co := h_co.kept hF 28 rfl (fsd (by omega))
  replace h_bf := h_bf.kept hF 28 rfl (fsd (by omega))
  replace h_sv := h_sv.kept hF 28 rfl (fsd (by omega))
  replace h_hi := h_hi.kept hF 2 rfl (fsd (by omega))
  replace h_hf := h_hf.kept hF (fsd (by omega))
  replace h_dk := h_dk.kept hF 3 rfl (fsd (by omega))
  replace h_se := h_se.kept hF 5 rfl (fsd (by omega))
  replace h_pg := h_pg.kept hF 1 rfl (fsd (by omega))
  replace h_sb := h_sb.kept hF 1 rfl (fsd (by omega))
  replace h_sa := h_sa.kept hF 1 rfl (fsd (by omega))
  replace h_pr := h_pr.kept hF 10 rfl (fsd (by omega))
  replace h_ln := h_ln.kept hF 1 rfl (fsd (by omega))
  replace h_la := h_la.kept hF 1 rfl (fsd (by omega))
  replace h_out := h_out.kept hF 1 rfl (fsd (by omega))
  replace h_outD := h_outD.kept hF 1 rfl (fsd (by omega))
  show V p l e room_1 s m args below meth cd Q 9 H2 lo2 (kq + 1) (nq + 6) 3225 [(6, .int (zI 1)), (5, .int (zI i)), (4, .ref (x + 340)), (3, .ref (x + 339)), (2, .ref (x + 334)), (1, .ref x), (0, .ref b)] [.int (zI 0)]
  refine v_istore X dL_law_3225 3227 rfl (by decide) (L' := [(7, .int (zI 0)), (6, .int (zI 1)), (5, .int (zI i)), (4, .ref (x + 340)), (3, .ref (x + 339)), (2, .ref (x + 334)), (1, .ref x), (0, .ref b)]) rfl ?_
  refine v_aload_n X dL_law_3227 3228 rfl 5 rfl ?_
  refine v_rdV X hM.C h_mo.1 (c_X10_thrown l E (x + 334) (updC mo 0 (updZ (mo 0) 0 1))) kvX10_thrown kiX10_thrown kl_L_196 rfl rfl (As := []) rfl rfl (rm_law0 rfl (by omega) (by omega)) dL_law_3228 3231 rfl ?_
  show V p l e room_1 s m args below meth cd Q 9 H2 lo2 (kq + 1) (nq + 6) 3231 [(7, .int (zI 0)), (6, .int (zI 1)), (5, .int (zI i)), (4, .ref (x + 340)), (3, .ref (x + 339)), (2, .ref (x + 334)), (1, .ref x), (0, .ref b)] [.int (zI 1)]
  refine v_iload X dL_law_3231 3233 rfl 1 rfl ?_
  refine v_icmp_eq X (by omega) (by omega) dL_law_3233 3236 3238 rfl (by decide) (fun c_3 => ?_) (fun c_3 => ?_)
  · skip
    refine v_iload X dL_law_3238 3240 rfl 1 rfl ?_
    refine v_if_ne X (by omega) dL_law_3240 3243 3255 rfl (by decide) (fun c_4 => ?_) (fun c_4 => ?_)
    · skip
      refine v_goto X dL_law_3255 3555 (by decide) ?_
      refine v_widen (k' := kq + 60) (n' := nq + 4000) (by omega) (by omega) ?_
      exact V_pick [2, 3, 4, 5, 6, 7] rfl (kk _ _ hM ⟨hzl, _, _, _, _, _, _, _, _, _, _, _, _, _, _, _, _, _, _, _, _, _, _, _, _, _, _, _, _, ⟨h_cm, h_co, h_bf, h_sv, h_hi, h_hf, h_dk, h_se, h_pg, h_sb, h_sa, h_pr, h_ln, h_la, h_mo, h_out, h_outD⟩, hP0.mo_0⟩)
    · skip
      exfalso; omega
  · skip
    exfalso; omega
set_option maxHeartbeats 4000000 in
set_option maxRecDepth 20000 in
theorem lo_append_2 (hl : l.stackTraces = false) (X : CF p m cd code 9 s args RL) (hX : va_X b Lx xs s s.heap) (hbl : b < s.heap.size) (hLx : Lx ≤ 2560) (hM : MS E [] s H lo) (hk : kq + 60 ≤ 603072) (hn : nq + 4000 ≤ 7211113) (hx : s.heap.size ≤ x) (hzl : x + 341 ≤ H.size) {v : Nat} {N : Nat} {f : Int → Int} {nn : Int} {v2 : Nat} {N2 : Nat} {f2 : Int → Int} {n2 : Int} {co : Nat → Int → Int} {bf : Nat → Int → Int} {cv : Nat → Int → Int} {hc : Nat → Nat → Int → Int} {nx : Int} {sz : Int} {hs : Int} {er : Int} {fa : Int} {ss : Int} {dk : Nat → Int → Int} {se : Nat → Int → Int} {po : Int} {si : Int} {pr : Nat → Int → Int} {ml : Int} {ml2 : Int} {mo : Nat → Int → Int} {lg : Nat → Int64} {dg : Nat → UInt64} (hW : LawW E x v N f nn v2 N2 f2 n2 co bf cv hc nx sz hs er fa ss dk se po si pr ml ml2 mo lg dg H) (hP : LawP x v N f nn v2 N2 f2 n2 co cv hc nx sz hs er fa ss po si pr mo) (i0 : 0 ≤ i) (i1 : i + 5 ≤ (Lx : Int)) {a1 ch : Int} (ha1 : (xs (i + 1).toNat).toInt = a1) (ga1 : Rg a1) (hch1 : (((zI a1).toUInt32 % 65536).toInt32).toInt = ch) (gc : 0 ≤ ch ∧ ch < 65536) (q0 : 32 ≤ ch ∧ ch ≤ 126) (q1 : 60 ≤ nn) (kk : ∀ (H1 : Heap) (lo1 : List Loc), MS E [] s H1 lo1 → LawI E x H1 → V p l e room_1 s m args below meth cd Q 9 H1 lo1 (kq + 60) (nq + 4000) 3555 [(5, .int (zI i)), (4, .ref (x + 340)), (3, .ref (x + 339)), (2, .ref (x + 334)), (1, .ref x), (0, .ref b)] []) : V p l e room_1 s m args below meth cd Q 9 H lo kq nq 3200 [(5, .int (zI i)), (4, .ref (x + 340)), (3, .ref (x + 339)), (2, .ref (x + 334)), (1, .ref x), (0, .ref b)] [] := by
  obtain ⟨h_cm, h_co, h_bf, h_sv, h_hi, h_hf, h_dk, h_se, h_pg, h_sb, h_sa, h_pr, h_ln, h_la, h_mo, h_out, h_outD⟩ := hW
  have hP0 := hP
  obtain ⟨⟨hD, hDv, hDh⟩, ⟨hRM, hch, hcs⟩, ⟨⟨n0, n1⟩, ⟨s0, s1⟩, hhs⟩, ⟨hm8, hnn, hAg, hNN, hnN, hf9⟩, ⟨T, hSB, hLT, hn38⟩, hPB, ⟨her, hfa, hss, ger, gfa, gss, gms⟩, ⟨gpo, gsi⟩, ⟨hv1, hv2, hvv⟩⟩ := hP
  have hO := hD.inv.ok
  have hI := hD.inv.ts
  have hSt := hD.inv.st
  have hS := hD.inv.sn
  have hR := hRM.1.2
  have hG := gp_inv hD
  have hb0 := hO.b0
  have hbw := hO.bw
  have hbf : ¬ Fr [] s.heap.size b := fun z => z.elim (fun q => q.elim) (fun q => by omega)
  refine v_aload_n X dL_law_3200 3201 rfl 4 rfl ?_
  refine v_aload_n X dL_law_3201 3202 rfl 5 rfl ?_
  refine v_iload X dL_law_3202 3204 rfl 0 rfl ?_
  refine v_iconst X dL_law_3204 3205 rfl ?_
  refine v_iadd X dL_law_3205 3206 rfl ?_
  refine v_scr X hM hX hbl hbf (by omega) (by omega) hLx ha1 dL_law_3206 3207 rfl ?_
  refine v_i2c X hch1 dL_law_3207 3208 rfl ?_
  refine v_aload_n X dL_law_3208 3209 rfl 2 rfl ?_
  refine v_mwS X hM (w_X9_append_1_t l hl E x hs er fa ss v N f po si ml nn ch (x + 339) lg (by omega) (by omega) q1 (by omega)) kwL_append ksL_append kl_L_373 (As := [.ref x, .int (zI ch), .ref (x + 339)]) rfl rfl (rm_lawW rfl (by omega) (by omega)) dL_law_3209 3212 rfl (k' := kq + 1) (n' := nq + 6) rfl rfl (fun q hq => hq.elim) ⟨h_cm, h_pg, h_sb, h_out⟩ (fun rv H1 lo1 hM hF hpo => ?_)
  subst hpo
  replace hzl := Nat.le_trans hzl hF.1
  replace h_cm := h_cm.kept hF 1 rfl (fun q _ _ h => h.elim)
  replace h_co := h_co.kept hF 28 rfl (fun q _ _ h => h.elim)
  replace h_bf := h_bf.kept hF 28 rfl (fun q _ _ h => h.elim)
  replace h_sv := h_sv.kept hF 28 rfl (fun q _ _ h => h.elim)
  replace h_hi := h_hi.kept hF 2 rfl (fun q _ _ h => h.elim)
  replace h_hf := h_hf.kept hF (fun q _ _ h => h.elim)
  replace h_dk := h_dk.kept hF 3 rfl (fun q _ _ h => h.elim)
  replace h_se := h_se.kept hF 5 rfl (fun q _ _ h => h.elim)
  replace h_pg := h_pg.kept hF 1 rfl (fun q _ _ h => h.elim)
  replace h_sb := h_sb.kept hF 1 rfl (fun q _ _ h => h.elim)
  replace h_sa := h_sa.kept hF 1 rfl (fun q _ _ h => h.elim)
  replace h_pr := h_pr.kept hF 10 rfl (fun q _ _ h => h.elim)
  replace h_ln := h_ln.kept hF 1 rfl (fun q _ _ h => h.elim)
  replace h_la := h_la.kept hF 1 rfl (fun q _ _ h => h.elim)
  replace h_mo := h_mo.kept hF 5 rfl (fun q _ _ h => h.elim)
  replace h_out := h_out.kept hF 1 rfl (fun q _ _ h => h.elim)
  replace h_outD := h_outD.kept hF 1 rfl (fun q _ _ h => h.elim)
  show V p l e room_1 s m args below meth cd Q 9 H1 lo1 (kq + 1) (nq + 6) 3212 [(5, .int (zI i)), (4, .ref (x + 340)), (3, .ref (x + 339)), (2, .ref (x + 334)), (1, .ref x), (0, .ref b)] [.int (zI 2)]
  refine v_istore X dL_law_3212 3214 rfl (by decide) (L' := [(6, .int (zI 2)), (5, .int (zI i)), (4, .ref (x + 340)), (3, .ref (x + 339)), (2, .ref (x + 334)), (1, .ref x), (0, .ref b)]) rfl ?_
  refine v_aload_n X dL_law_3214 3215 rfl 4 rfl ?_
  refine v_aload_n X dL_law_3215 3216 rfl 6 rfl ?_
  refine v_iload X dL_law_3216 3218 rfl 1 rfl ?_
  refine v_iconst X dL_law_3218 3219 rfl ?_
  refine v_iadd X dL_law_3219 3220 rfl ?_
  refine v_scr X hM hX hbl hbf (by omega) (by omega) hLx ha1 dL_law_3220 3221 rfl ?_
  refine v_i2c X hch1 dL_law_3221 3222 rfl ?_
  refine v_muV X hM (h_mo.1) (c_X10_append_1 l E (x + 334) mo ch gc (by omega) q0 (by omega)) kvX10_append kiX10_append kl_L_376 (q0 := 0) rfl rfl (As := [.int (zI ch)]) rfl rfl (rm_law rfl (by omega) (by omega)) dL_law_3222 3225 rfl (k' := kq + 1) (n' := nq + 6) rfl rfl (fsI (fun q q1 q2 => (Or.inr (by omega)))) h_mo (fun rv H2 lo2 hM hF hpo => ?_)
  obtain ⟨rfl, hw_0⟩ := hpo
  have h_mo : PR E (x + 334) (modelW E (x + 334) (updC mo 0 (updZ (mo 0) 0 2))) H2 := hw_0
  replace hzl := Nat.le_trans hzl hF.1
  replace h_cm := h_cm.kept hF 1 rfl (fsd (by omega))
  replace h_co := h_co.kept hF 28 rfl (fsd (by omega))
  replace h_bf := h_bf.kept hF 28 rfl (fsd (by omega))
  replace h_sv := h_sv.kept hF 28 rfl (fsd (by omega))
  replace h_hi := h_hi.kept hF 2 rfl (fsd (by omega))
  replace h_hf := h_hf.kept hF (fsd (by omega))
  replace h_dk := h_dk.kept hF 3 rfl (fsd (by omega))
  replace h_se := h_se.kept hF 5 rfl (fsd (by omega))
  replace h_pg := h_pg.kept hF 1 rfl (fsd (by omega))
  replace h_sb := h_sb.kept hF 1 rfl (fsd (by omega))
  replace h_sa := h_sa.kept hF 1 rfl (fsd (by omega))
  replace h_pr := h_pr.kept hF 10 rfl (fsd (by omega))
  replace h_ln := h_ln.kept hF 1 rfl (fsd (by omega))
  replace h_la := h_la.kept hF 1 rfl (fsd (by omega))
  replace h_out := h_out.kept hF 1 rfl (fsd (by omega))
  replace h_outD := h_outD.kept hF 1 rfl (fsd (by omega))
  show V p l e room_1 s m args below meth cd Q 9 H2 lo2 (kq + 1) (nq + 6) 3225 [(6, .int (zI 2)), (5, .int (zI i)), (4, .ref (x + 340)), (3, .ref (x + 339)), (2, .ref (x + 334)), (1, .ref x), (0, .ref b)] [.int (zI 0)]
  refine v_istore X dL_law_3225 3227 rfl (by decide) (L' := [(7, .int (zI 0)), (6, .int (zI 2)), (5, .int (zI i)), (4, .ref (x + 340)), (3, .ref (x + 339)), (2, .ref (x + 334)), (1, .ref x), (0, .ref b)]) rfl ?_
  refine v_aload_n X dL_law_3227 3228 rfl 5 rfl ?_
  refine v_rdV X hM.C h_mo.1 (c_X10_thrown l E (x + 334) (updC mo 0 (updZ (mo 0) 0 2))) kvX10_thrown kiX10_thrown kl_L_196 rfl rfl (As := []) rfl rfl (rm_law0 rfl (by omega) (by omega)) dL_law_3228 3231 rfl ?_
  show V p l e room_1 s m args below meth cd Q 9 H2 lo2 (kq + 1) (nq + 6) 3231 [(7, .int (zI 0)), (6, .int (zI 2)), (5, .int (zI i)), (4, .ref (x + 340)), (3, .ref (x + 339)), (2, .ref (x + 334)), (1, .ref x), (0, .ref b)] [.int (zI 2)]
  refine v_iload X dL_law_3231 3233 rfl 1 rfl ?_
  refine v_icmp_eq X (by omega) (by omega) dL_law_3233 3236 3238 rfl (by decide) (fun c_3 => ?_) (fun c_3 => ?_)
  · skip
    refine v_iload X dL_law_3238 3240 rfl 1 rfl ?_
    refine v_if_ne X (by omega) dL_law_3240 3243 3255 rfl (by decide) (fun c_4 => ?_) (fun c_4 => ?_)
    · skip
      refine v_goto X dL_law_3255 3555 (by decide) ?_
      refine v_widen (k' := kq + 60) (n' := nq + 4000) (by omega) (by omega) ?_
      exact V_pick [2, 3, 4, 5, 6, 7] rfl (kk _ _ hM ⟨hzl, _, _, _, _, _, _, _, _, _, _, _, _, _, _, _, _, _, _, _, _, _, _, _, _, _, _, _, _, ⟨h_cm, h_co, h_bf, h_sv, h_hi, h_hf, h_dk, h_se, h_pg, h_sb, h_sa, h_pr, h_ln, h_la, h_mo, h_out, h_outD⟩, hP0.mo_0⟩)
    · skip
      exfalso; omega
  · skip
    exfalso; omega
end LAWOPS
