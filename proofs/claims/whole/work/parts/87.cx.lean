theorem st_sel {y : MethodName} {s : State} {args : Array Value} {n : Nat} (hy : y.cls ≠ "java/lang/invoke/MethodHandle" ∧ y.cls ≠ "java/lang/invoke/VarHandle") {C : String}
    (hins : (Cond.instantiable C n).before args s = true) (hpriv : (Cond.privateMethod y).before args s = true) (hinst : (Cond.instanceMethod y).before args s = true) (hsame : (Cond.sameMethod y.cls y.cls y.name y.desc).before args s = true) : (Cond.selects C y y).before args s = true := by
  obtain ⟨c, k, hc, hk, -, -, -, -⟩ := Cond.instantiable_spec hins
  obtain ⟨mk, methM, hnamed, hmethM, -, -⟩ := Cond.instanceMethod_spec hinst
  have hfound : s.methodFound? y.cls y.name y.desc = some mk := State.methodFound?_of_named hnamed hy
  obtain ⟨cn, ck, r1, hcn, hck, hni, -, -⟩ := Cond.sameMethod_found hsame
  have hcls : mk.cls = cn := Option.some.inj ((findClass_of_methodNamed hnamed).symm.trans hcn)
  have hsel : selectMethod {} s.vm c mk = .method mk := selectMethod_private hmethM (Cond.privateMethod_at hpriv mk methM hnamed hmethM)
  simp only [Cond.before, Cond.holds, Cond.value, hc, hfound, hnamed, hsel, hcls, hck]
  simp; exact hni
theorem st_xn {s : State} {args : Array Value} (hs : ∀ w ∈ GV, w.before args s = true) : ∀ (i j : Nat) (x y : String), i ≠ j → XN[i]? = some x → XN[j]? = some y → va_Nc x y s := by
  intro i j x y hij hx hy
  have hi : i < 6 := (List.getElem?_eq_some_iff.mp hx).1
  have hj : j < 6 := (List.getElem?_eq_some_iff.mp hy).1
  rcases (show i = 0 ∨ i = 1 ∨ i = 2 ∨ i = 3 ∨ i = 4 ∨ i = 5 by omega) with rfl | rfl | rfl | rfl | rfl | rfl <;> rcases (show j = 0 ∨ j = 1 ∨ j = 2 ∨ j = 3 ∨ j = 4 ∨ j = 5 by omega) with rfl | rfl | rfl | rfl | rfl | rfl <;> cases hx <;> cases hy
  · exact absurd rfl hij
  · exact va_Nc.of (hs _ (List.mem_of_getElem? (i := 268) (by decide +kernel)))
  · exact va_Nc.of (hs _ (List.mem_of_getElem? (i := 286) (by decide +kernel)))
  · exact va_Nc.of (hs _ (List.mem_of_getElem? (i := 304) (by decide +kernel)))
  · exact va_Nc.of (hs _ (List.mem_of_getElem? (i := 323) (by decide +kernel)))
  · exact va_Nc.of (hs _ (List.mem_of_getElem? (i := 342) (by decide +kernel)))
  · exact va_Nc.of (hs _ (List.mem_of_getElem? (i := 250) (by decide +kernel)))
  · exact absurd rfl hij
  · exact va_Nc.of (hs _ (List.mem_of_getElem? (i := 288) (by decide +kernel)))
  · exact va_Nc.of (hs _ (List.mem_of_getElem? (i := 305) (by decide +kernel)))
  · exact va_Nc.of (hs _ (List.mem_of_getElem? (i := 325) (by decide +kernel)))
  · exact va_Nc.of (hs _ (List.mem_of_getElem? (i := 344) (by decide +kernel)))
  · exact va_Nc.of (hs _ (List.mem_of_getElem? (i := 248) (by decide +kernel)))
  · exact va_Nc.of (hs _ (List.mem_of_getElem? (i := 267) (by decide +kernel)))
  · exact absurd rfl hij
  · exact va_Nc.of (hs _ (List.mem_of_getElem? (i := 303) (by decide +kernel)))
  · exact va_Nc.of (hs _ (List.mem_of_getElem? (i := 322) (by decide +kernel)))
  · exact va_Nc.of (hs _ (List.mem_of_getElem? (i := 341) (by decide +kernel)))
  · exact va_Nc.of (hs _ (List.mem_of_getElem? (i := 249) (by decide +kernel)))
  · exact va_Nc.of (hs _ (List.mem_of_getElem? (i := 269) (by decide +kernel)))
  · exact va_Nc.of (hs _ (List.mem_of_getElem? (i := 287) (by decide +kernel)))
  · exact absurd rfl hij
  · exact va_Nc.of (hs _ (List.mem_of_getElem? (i := 324) (by decide +kernel)))
  · exact va_Nc.of (hs _ (List.mem_of_getElem? (i := 343) (by decide +kernel)))
  · exact va_Nc.of (hs _ (List.mem_of_getElem? (i := 252) (by decide +kernel)))
  · exact va_Nc.of (hs _ (List.mem_of_getElem? (i := 271) (by decide +kernel)))
  · exact va_Nc.of (hs _ (List.mem_of_getElem? (i := 289) (by decide +kernel)))
  · exact va_Nc.of (hs _ (List.mem_of_getElem? (i := 307) (by decide +kernel)))
  · exact absurd rfl hij
  · exact va_Nc.of (hs _ (List.mem_of_getElem? (i := 346) (by decide +kernel)))
  · exact va_Nc.of (hs _ (List.mem_of_getElem? (i := 255) (by decide +kernel)))
  · exact va_Nc.of (hs _ (List.mem_of_getElem? (i := 274) (by decide +kernel)))
  · exact va_Nc.of (hs _ (List.mem_of_getElem? (i := 291) (by decide +kernel)))
  · exact va_Nc.of (hs _ (List.mem_of_getElem? (i := 310) (by decide +kernel)))
  · exact va_Nc.of (hs _ (List.mem_of_getElem? (i := 329) (by decide +kernel)))
  · exact absurd rfl hij
theorem st_sr {s : State} {args : Array Value} (hs : ∀ w ∈ GV, w.before args s = true) : ∃ sr : Nat → Nat, ∀ i r, SR[i]? = some r → (Term.string r.1 r.2.1).eval args s none [] s = some (.ref (sr i)) := by
  have h : ∀ i : Nat, ∃ a : Nat, ∀ r, SR[i]? = some r → (Term.string r.1 r.2.1).eval args s none [] s = some (.ref a) := by
    intro i
    by_cases hi : i < SR.length
    · have hm : ∀ r ∈ SR, Cond.exactly (Term.string r.1 r.2.1) "java/lang/String" ∈ GV := by decide +kernel
      obtain ⟨a, -, -, -, e, -⟩ := Cond.exactly_spec (args := args) (first := s) (o := none) (s := s) (idx := []) (t := Term.string SR[i].1 SR[i].2.1) (cls := "java/lang/String") (hs _ (hm _ (List.getElem_mem hi)))
      refine ⟨a, fun r hr => ?_⟩
      rw [List.getElem?_eq_getElem hi] at hr
      cases hr
      exact e
    · exact ⟨0, fun r hr => absurd (List.getElem?_eq_some_iff.mp hr).1 hi⟩
  obtain ⟨f, hf⟩ := Classical.axiomOfChoice h
  exact ⟨f, hf⟩
theorem st_Cx {s : State} {b : Nat} (htl : ∀ w ∈ lw_tbl, w.before #[Value.ref b] s = true) (hgv : (Jvm.Cond.and given_1 narrow_1).before #[Value.ref b] s = true) : ∃ E : Nat → Nat → Nat, Cx E s s.heap := by
  have hs : ∀ w ∈ GV, w.before #[Value.ref b] s = true := flat_of_before _ hgv
  have hwa : ∀ w ∈ WA, w.before #[Value.ref b] s = true := fun w h => htl w (List.mem_filter.mp h).1
  have hA : ∀ a : Nat, a < s.heap.size → ¬ (fun q : Nat => s.heap.size ≤ q) a := fun a h => Nat.not_le.mpr h
  obtain ⟨dC, dI, hcl⟩ := st_cl hwa
  obtain ⟨r0, k0⟩ := sta_int (hwa _ karr_int)
  obtain ⟨r1, k1⟩ := sta_char (hwa _ karr_char)
  obtain ⟨r2, k2⟩ := sta_byte (hwa _ karr_byte)
  have hov : (Cond.arrayOver (.object "CaseManager$Court")).before #[Value.ref b] s = true := htl _ (List.mem_of_getElem? (i := 234) (by decide +kernel))
  obtain ⟨r3, k3⟩ := sta_court hov
  obtain ⟨r4, k4⟩ := sta_long (hwa _ karr_long)
  obtain ⟨r5, k5⟩ := sta_double (hwa _ karr_double)
  obtain ⟨fl, hfl⟩ := st_flt htl hs hA
  obtain ⟨dg, hdg⟩ := st_dg htl hs hA
  obtain ⟨adK, adV, hkw, hkt⟩ := st_kw hs hA
  obtain ⟨sr, hsr⟩ := st_sr hs
  let E : Nat → Nat → Nat := fun n j => if n = 100 then dC j else if n = 101 then s.heap.size else if n = 102 then (if j = 0 then r0 else if j = 1 then r1 else if j = 2 then r2 else if j = 3 then r3 else if j = 4 then r4 else r5) else if n = 103 then fl j else if n = 104 then dg j else if n = 105 then (if j < 7 then adK j else sr j) else if n = 106 then adV j else dI n j
  have hE : ∀ n, n < 100 → E n = dI n := fun n hn => by
    funext j
    show (if n = 100 then dC j else if n = 101 then s.heap.size else if n = 102 then (if j = 0 then r0 else if j = 1 then r1 else if j = 2 then r2 else if j = 3 then r3 else if j = 4 then r4 else r5) else if n = 103 then fl j else if n = 104 then dg j else if n = 105 then (if j < 7 then adK j else sr j) else if n = 106 then adV j else dI n j) = dI n j
    rw [if_neg (by omega), if_neg (by omega), if_neg (by omega), if_neg (by omega), if_neg (by omega), if_neg (by omega), if_neg (by omega)]
  refine ⟨E, Nat.le_refl _, ⟨⟨fun k q hq => ?_, fun k q hq => ?_⟩, fun w hw => va_Nw.of (isNest_tabs w (List.mem_filter.mp hw).2) (htl w (List.mem_filter.mp hw).1)⟩, ⟨hfl, ?_, ?_⟩, ⟨va_AO.of hov, ?_, ?_, ?_⟩, ⟨?_, fun i r hr => ?_⟩, hdg, st_xn hs, fun w hw => va_Nw.of (isDecl_tabs w (List.mem_filter.mp hw).2) (htl w (List.mem_filter.mp hw).1)⟩
  · have hk : k < 13 := (List.getElem?_eq_some_iff.mp hq).1
    show u_Kn s q.1 q.2.1 q.2.2 (dC k) (E k)
    rw [hE k (by omega)]
    exact hcl k q hq
  · have hk : k < 6 := (List.getElem?_eq_some_iff.mp hq).1
    rcases (show k = 0 ∨ k = 1 ∨ k = 2 ∨ k = 3 ∨ k = 4 ∨ k = 5 by omega) with rfl | rfl | rfl | rfl | rfl | rfl <;> cases hq
    · exact k0
    · exact k1
    · exact k2
    · exact k3
    · exact k4
    · exact k5
  · exact vx_Zqof (htl _ (List.mem_of_getElem? (i := 709) (by decide +kernel))) (htl _ (List.mem_of_getElem? (i := 100) (by decide +kernel))) (hs _ (List.mem_of_getElem? (i := 25) (by decide +kernel))) hA
  · exact vx_Zqof (htl _ (List.mem_of_getElem? (i := 711) (by decide +kernel))) (htl _ (List.mem_of_getElem? (i := 100) (by decide +kernel))) (hs _ (List.mem_of_getElem? (i := 26) (by decide +kernel))) hA
  · exact va_Zof (htl _ (List.mem_of_getElem? (i := 298) (by decide +kernel))) (htl _ (List.mem_of_getElem? (i := 95) (by decide +kernel))) (va_eqi (hs _ (by decide +kernel))) hA
  · exact va_Zqof (htl _ (List.mem_of_getElem? (i := 1354) (by decide +kernel))) (htl _ (List.mem_of_getElem? (i := 115) (by decide +kernel))) (hs _ (List.mem_of_getElem? (i := 27) (by decide +kernel))) hA
  · intro y hy
    rcases List.mem_cons.mp hy with rfl | hy
    · exact va_Nw.of rfl (st_sel (C := RJ4) (n := 4) ⟨by decide +kernel, by decide +kernel⟩ (htl _ (List.mem_of_getElem? (i := 289) (by decide +kernel))) (htl _ (List.mem_of_getElem? (i := 1308) (by decide +kernel))) (htl _ (List.mem_of_getElem? (i := 1309) (by decide +kernel))) (htl _ (List.mem_of_getElem? (i := 2244) (by decide +kernel))))
    · rcases List.mem_cons.mp hy with rfl | hy
      · exact va_Nw.of rfl (st_sel (C := RJ4) (n := 4) ⟨by decide +kernel, by decide +kernel⟩ (htl _ (List.mem_of_getElem? (i := 289) (by decide +kernel))) (htl _ (List.mem_of_getElem? (i := 1312) (by decide +kernel))) (htl _ (List.mem_of_getElem? (i := 1313) (by decide +kernel))) (htl _ (List.mem_of_getElem? (i := 2245) (by decide +kernel))))
      · cases hy
  · refine ⟨fun i hi => ?_, fun i j hi hj e => ?_⟩
    · have e : E 105 i = adK i := if_pos hi
      rw [e]
      exact hkw.1 i hi
    · have e1 : E 105 i = adK i := if_pos hi
      have e2 : E 105 j = adK j := if_pos hj
      rw [e1, e2] at e
      exact hkw.2 i j hi hj e
  · have hm : ∀ r ∈ SR, Cond.stringRef r.1 r.2.1 r.2.2 ∈ lw_tbl := by decide +kernel
    refine vk_R.of (A := #[Value.ref b]) (htl _ (hm r (List.mem_of_getElem? hr))) ?_
    by_cases hi : i < 7
    · have e : E 105 i = adK i := if_pos hi
      rw [e, ← hkt i hi]
      rcases (show i = 0 ∨ i = 1 ∨ i = 2 ∨ i = 3 ∨ i = 4 ∨ i = 5 ∨ i = 6 by omega) with rfl | rfl | rfl | rfl | rfl | rfl | rfl <;> cases hr <;> rfl
    · have e : E 105 i = sr i := if_neg hi
      rw [e]
      exact hsr i r hr
