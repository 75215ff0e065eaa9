theorem st_sel {y : MethodName} {s : State} {args : Array Value} {n : Nat} (hy : y.cls ≠ "java/lang/invoke/MethodHandle" ∧ y.cls ≠ "java/lang/invoke/VarHandle") {C : String}
    (hins : (Cond.instantiable C n).before args s = true) (hpriv : (Cond.privateMethod y).before args s = true) (hinst : (Cond.instanceMethod y).before args s = true) (hsame : (Cond.sameMethod y.cls y.cls y.name y.desc).before args s = true) : (Cond.selects C y y).before args s = true := by
  obtain ⟨c, k, hc, hk, -, -, -, -⟩ := Cond.instantiable_spec hins
  obtain ⟨mk, methM, hnamed, hmethM, -, -⟩ := Cond.instanceMethod_spec hinst
  have hfound : s.methodFound? y.cls y.name y.desc = some mk := State.methodFound?_of_named hnamed hy
  obtain ⟨cn, ck, r1, hcn, hck, hni, -, -⟩ := Cond.sameMethod_found hsame
  have hcls : mk.cls = cn := Option.some.inj ((findClass_of_methodNamed hnamed).symm.trans hcn)
  have hsel : selectMethod {} s.vm c mk = .method mk := selectMethod_private hmethM (Cond.privateMethod_at hpriv mk methM hnamed hmethM)
  simp only [Cond.before, Cond.holds, Cond.value, hc, hfound, hnamed, hsel, hcls, hck]
  simp; exact hni
theorem st_xn {s : State} {args : Array Value} (hs : ∀ w ∈ GV, w.before args s = true) : ∀ (i j : Nat) (x y : String), i ≠ j → XN[i]? = some x → XN[j]? = some y → va_Nc x y s := by
  intro i j x y hij hx hy
  have hi : i < 4 := (List.getElem?_eq_some_iff.mp hx).1
  have hj : j < 4 := (List.getElem?_eq_some_iff.mp hy).1
  rcases (show i = 0 ∨ i = 1 ∨ i = 2 ∨ i = 3 by omega) with rfl | rfl | rfl | rfl <;> rcases (show j = 0 ∨ j = 1 ∨ j = 2 ∨ j = 3 by omega) with rfl | rfl | rfl | rfl <;> cases hx <;> cases hy
  · exact absurd rfl hij
  · exact va_Nc.of (hs _ (List.mem_of_getElem? (i := 280) (by decide +kernel)))
  · exact va_Nc.of (hs _ (List.mem_of_getElem? (i := 247) (by decide +kernel)))
  · exact va_Nc.of (hs _ (List.mem_of_getElem? (i := 263) (by decide +kernel)))
  · exact va_Nc.of (hs _ (List.mem_of_getElem? (i := 298) (by decide +kernel)))
  · exact absurd rfl hij
  · exact va_Nc.of (hs _ (List.mem_of_getElem? (i := 249) (by decide +kernel)))
  · exact va_Nc.of (hs _ (List.mem_of_getElem? (i := 264) (by decide +kernel)))
  · exact va_Nc.of (hs _ (List.mem_of_getElem? (i := 296) (by decide +kernel)))
  · exact va_Nc.of (hs _ (List.mem_of_getElem? (i := 279) (by decide +kernel)))
  · exact absurd rfl hij
  · exact va_Nc.of (hs _ (List.mem_of_getElem? (i := 262) (by decide +kernel)))
  · exact va_Nc.of (hs _ (List.mem_of_getElem? (i := 297) (by decide +kernel)))
  · exact va_Nc.of (hs _ (List.mem_of_getElem? (i := 281) (by decide +kernel)))
  · exact va_Nc.of (hs _ (List.mem_of_getElem? (i := 248) (by decide +kernel)))
  · exact absurd rfl hij
theorem zI_bv (x : Int32) : zI ((x.toBitVec.toNat : Nat) : Int) = x := by
  unfold zI
  apply Int32.toBitVec_inj.mp
  show BitVec.ofInt 32 ((x.toBitVec.toNat : Nat) : Int) = x.toBitVec
  rw [BitVec.ofInt_natCast]
  apply BitVec.eq_of_toNat_eq
  rw [BitVec.toNat_ofNat]
  exact Nat.mod_eq_of_lt x.toBitVec.isLt
theorem st_sr {s : State} {args : Array Value} (hs : ∀ w ∈ GV, w.before args s = true) : ∃ sr : Nat → Nat, ∀ i r, SR[i]? = some r → (Term.string r.1 r.2.1).eval args s none [] s = some (.ref (sr i)) := by
  have h : ∀ i : Nat, ∃ a : Nat, ∀ r, SR[i]? = some r → (Term.string r.1 r.2.1).eval args s none [] s = some (.ref a) := by
    intro i
    by_cases hi : i < SR.length
    · have hm : ∀ r ∈ SR, Cond.exactly (Term.string r.1 r.2.1) "java/lang/String" ∈ GV := by decide +kernel
      obtain ⟨a, -, -, -, e, -⟩ := Cond.exactly_spec (args := args) (first := s) (o := none) (s := s) (idx := []) (t := Term.string SR[i].1 SR[i].2.1) (cls := "java/lang/String") (hs _ (hm _ (List.getElem_mem hi)))
      refine ⟨a, fun r hr => ?_⟩
      rw [List.getElem?_eq_getElem hi] at hr
      cases hr
      exact e
    · exact ⟨0, fun r hr => absurd (List.getElem?_eq_some_iff.mp hr).1 hi⟩
  obtain ⟨f, hf⟩ := Classical.axiomOfChoice h
  exact ⟨f, hf⟩
theorem st_Cx {s : State} {b L : Nat} {xs : Nat → Int32} (hX : va_X b L xs s s.heap) (hbl : b < s.heap.size) (hL : L ≤ 260) (htl : ∀ w ∈ lw_tbl, w.before #[Value.ref b] s = true) (hgv : (Jvm.Cond.and given_1 narrow_1).before #[Value.ref b] s = true) : ∃ E : Nat → Nat → Nat, E 107 0 = b ∧ Cx E s s.heap := by
  have hs : ∀ w ∈ GV, w.before #[Value.ref b] s = true := flat_of_before _ hgv
  have hwa : ∀ w ∈ WA, w.before #[Value.ref b] s = true := fun w h => htl w (List.mem_filter.mp h).1
  have hA : ∀ a : Nat, a < s.heap.size → ¬ (fun q : Nat => s.heap.size ≤ q) a := fun a h => Nat.not_le.mpr h
  obtain ⟨dC, dI, hcl⟩ := st_cl hwa
  obtain ⟨r0, k0⟩ := sta_int (hwa _ karr_int)
  obtain ⟨r2, k2⟩ := sta_byte (hwa _ karr_byte)
  have hov : (Cond.arrayOver (.object "CaseManager$Court")).before #[Value.ref b] s = true := htl _ (List.mem_of_getElem? (i := 179) (by decide +kernel))
  obtain ⟨r3, k3⟩ := sta_court hov
  obtain ⟨fl, hfl⟩ := st_flt htl hs hA
  obtain ⟨dg, hdg⟩ := st_dg htl hs hA
  obtain ⟨adK, adV, hkw, hkt⟩ := st_kw hs hA
  obtain ⟨sr, hsr⟩ := st_sr hs
  let E : Nat → Nat → Nat := fun n j => if n = 100 then dC j else if n = 101 then s.heap.size else if n = 102 then (if j = 0 then r0 else if j = 2 then r2 else r3) else if n = 103 then fl j else if n = 104 then dg j else if n = 105 then (if j < 35 then sr j else adK (j - 35)) else if n = 106 then adV j else if n = 107 then (if j = 0 then b else L) else if n = 108 then (xs j).toBitVec.toNat else dI n j
  have hE : ∀ n, n < 100 → E n = dI n := fun n hn => by
    funext j
    show (if n = 100 then dC j else if n = 101 then s.heap.size else if n = 102 then (if j = 0 then r0 else if j = 2 then r2 else r3) else if n = 103 then fl j else if n = 104 then dg j else if n = 105 then (if j < 35 then sr j else adK (j - 35)) else if n = 106 then adV j else if n = 107 then (if j = 0 then b else L) else if n = 108 then (xs j).toBitVec.toNat else dI n j) = dI n j
    rw [if_neg (by omega), if_neg (by omega), if_neg (by omega), if_neg (by omega), if_neg (by omega), if_neg (by omega), if_neg (by omega), if_neg (by omega), if_neg (by omega)]
  have eK : ∀ i : Nat, E 105 (35 + i) = adK i := fun i => by
    show (if 35 + i < 35 then sr (35 + i) else adK (35 + i - 35)) = adK i
    rw [if_neg (by omega), Nat.add_sub_cancel_left]
  refine ⟨E, rfl, Nat.le_refl _, ⟨⟨fun k q hq => ?_, fun k q hq => ?_⟩, fun w hw => va_Nw.of (isNest_tabs w (List.mem_filter.mp hw).2) (htl w (List.mem_filter.mp hw).1)⟩, ⟨hfl, ?_, ?_⟩, ⟨va_AO.of hov, ?_, ?_, ?_⟩, ⟨?_, fun i r hr => ?_⟩, hdg, st_xn hs, fun w hw => va_Nw.of (isDecl_tabs w (List.mem_filter.mp hw).2) (htl w (List.mem_filter.mp hw).1), ?_, hL⟩
  · have hk : k < 12 := (List.getElem?_eq_some_iff.mp hq).1
    show u_Kn s q.1 q.2.1 q.2.2 (dC k) (E k)
    rw [hE k (by omega)]
    exact hcl k q hq
  · have hk : k < 4 := (List.getElem?_eq_some_iff.mp hq).1
    rcases (show k = 0 ∨ k = 1 ∨ k = 2 ∨ k = 3 by omega) with rfl | rfl | rfl | rfl <;> cases hq
    · exact k0
    · exact k0
    · exact k2
    · exact k3
  · exact vx_Zqof (htl _ (List.mem_of_getElem? (i := 372) (by decide +kernel))) (htl _ (List.mem_of_getElem? (i := 47) (by decide +kernel))) (hs _ (List.mem_of_getElem? (i := 5) (by decide +kernel))) hA
  · exact vx_Zqof (htl _ (List.mem_of_getElem? (i := 374) (by decide +kernel))) (htl _ (List.mem_of_getElem? (i := 47) (by decide +kernel))) (hs _ (List.mem_of_getElem? (i := 6) (by decide +kernel))) hA
  · exact va_Zof (htl _ (List.mem_of_getElem? (i := 242) (by decide +kernel))) (htl _ (List.mem_of_getElem? (i := 43) (by decide +kernel))) (va_eqi (hs _ (by decide +kernel))) hA
  · exact va_Zqof (htl _ (List.mem_of_getElem? (i := 935) (by decide +kernel))) (htl _ (List.mem_of_getElem? (i := 62) (by decide +kernel))) (hs _ (List.mem_of_getElem? (i := 7) (by decide +kernel))) hA
  · intro y hy
    rcases List.mem_cons.mp hy with rfl | hy
    · exact va_Nw.of rfl (st_sel (C := RJ4) (n := 4) ⟨by decide +kernel, by decide +kernel⟩ (htl _ (List.mem_of_getElem? (i := 233) (by decide +kernel))) (htl _ (List.mem_of_getElem? (i := 883) (by decide +kernel))) (htl _ (List.mem_of_getElem? (i := 884) (by decide +kernel))) (htl _ (List.mem_of_getElem? (i := 1489) (by decide +kernel))))
    · skip
      rcases List.mem_cons.mp hy with rfl | hy
      · exact va_Nw.of rfl (st_sel (C := RJ4) (n := 4) ⟨by decide +kernel, by decide +kernel⟩ (htl _ (List.mem_of_getElem? (i := 233) (by decide +kernel))) (htl _ (List.mem_of_getElem? (i := 887) (by decide +kernel))) (htl _ (List.mem_of_getElem? (i := 888) (by decide +kernel))) (htl _ (List.mem_of_getElem? (i := 1490) (by decide +kernel))))
      · skip
        rcases List.mem_cons.mp hy with rfl | hy
        · exact va_Nw.of rfl (st_sel (C := RJ4) (n := 4) ⟨by decide +kernel, by decide +kernel⟩ (htl _ (List.mem_of_getElem? (i := 233) (by decide +kernel))) (htl _ (List.mem_of_getElem? (i := 958) (by decide +kernel))) (htl _ (List.mem_of_getElem? (i := 959) (by decide +kernel))) (htl _ (List.mem_of_getElem? (i := 1491) (by decide +kernel))))
        · skip
          rcases List.mem_cons.mp hy with rfl | hy
          · exact va_Nw.of rfl (st_sel (C := RJ4) (n := 4) ⟨by decide +kernel, by decide +kernel⟩ (htl _ (List.mem_of_getElem? (i := 233) (by decide +kernel))) (htl _ (List.mem_of_getElem? (i := 962) (by decide +kernel))) (htl _ (List.mem_of_getElem? (i := 963) (by decide +kernel))) (htl _ (List.mem_of_getElem? (i := 1492) (by decide +kernel))))
          · skip
            cases hy
  · have e : (fun i => E 105 (35 + i)) = adK := funext eK
    show vk_S 13 kwL kwB (fun i => E 105 (35 + i)) adV (Az E) s s.heap
    rw [e]
    exact hkw
  · have hm : ∀ r ∈ SR, Cond.stringRef r.1 r.2.1 r.2.2 ∈ lw_tbl := by decide +kernel
    refine vk_R.of (A := #[Value.ref b]) (htl _ (hm r (List.mem_of_getElem? hr))) ?_
    by_cases hi : i < 35
    · have e : E 105 i = sr i := if_pos hi
      rw [e]
      exact hsr i r hr
    · have hi2 : i < 48 := (List.getElem?_eq_some_iff.mp hr).1
      obtain ⟨q, rfl⟩ : ∃ q, i = 35 + q := ⟨i - 35, by omega⟩
      rw [eK q, ← hkt q (by omega)]
      rcases (show q = 0 ∨ q = 1 ∨ q = 2 ∨ q = 3 ∨ q = 4 ∨ q = 5 ∨ q = 6 ∨ q = 7 ∨ q = 8 ∨ q = 9 ∨ q = 10 ∨ q = 11 ∨ q = 12 by omega) with rfl | rfl | rfl | rfl | rfl | rfl | rfl | rfl | rfl | rfl | rfl | rfl | rfl <;> cases hr <;> rfl
  · obtain ⟨scr, h1, h2, h3, h4, h5⟩ := hX
    refine ⟨scr, h1, h2, h3, Nat.le_of_eq h4.symm, by rw [h4]; rfl, fun j hj => ?_, Nat.not_le.mpr hbl⟩
    rw [h5 j hj]
    show some (Value.int (xs j)) = some (Value.int (zI (((xs j).toBitVec.toNat : Nat) : Int)))
    rw [zI_bv]
