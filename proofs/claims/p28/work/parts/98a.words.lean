/-! ===== what holds as the law begins ===== -/
set_option maxRecDepth 20000 in
theorem zl_S : ∀ q ∈ zTx, Cond.stringRef RX5 q.1 q.2 ∈ lw_tbl := List.forall_mem_cons.mpr ⟨List.mem_of_getElem? (i := 752) (by decide +kernel), List.forall_mem_cons.mpr ⟨List.mem_of_getElem? (i := 753) (by decide +kernel), List.forall_mem_cons.mpr ⟨List.mem_of_getElem? (i := 754) (by decide +kernel), List.forall_mem_cons.mpr ⟨List.mem_of_getElem? (i := 372) (by decide +kernel), List.forall_mem_cons.mpr ⟨List.mem_of_getElem? (i := 467) (by decide +kernel), List.forall_mem_cons.mpr ⟨List.mem_of_getElem? (i := 468) (by decide +kernel), List.forall_mem_cons.mpr ⟨List.mem_of_getElem? (i := 469) (by decide +kernel), List.forall_mem_cons.mpr ⟨List.mem_of_getElem? (i := 279) (by decide +kernel), List.forall_mem_cons.mpr ⟨List.mem_of_getElem? (i := 608) (by decide +kernel), List.forall_mem_cons.mpr ⟨List.mem_of_getElem? (i := 613) (by decide +kernel), List.forall_mem_cons.mpr ⟨List.mem_of_getElem? (i := 653) (by decide +kernel), List.forall_mem_cons.mpr ⟨List.mem_of_getElem? (i := 654) (by decide +kernel), List.forall_mem_cons.mpr ⟨List.mem_of_getElem? (i := 655) (by decide +kernel), List.forall_mem_cons.mpr ⟨List.mem_of_getElem? (i := 677) (by decide +kernel), List.forall_mem_cons.mpr ⟨List.mem_of_getElem? (i := 440) (by decide +kernel), List.forall_mem_cons.mpr ⟨List.mem_of_getElem? (i := 691) (by decide +kernel), List.forall_mem_cons.mpr ⟨List.mem_of_getElem? (i := 699) (by decide +kernel), List.forall_mem_cons.mpr ⟨List.mem_of_getElem? (i := 700) (by decide +kernel), List.forall_mem_cons.mpr ⟨List.mem_of_getElem? (i := 765) (by decide +kernel), List.forall_mem_cons.mpr ⟨List.mem_of_getElem? (i := 766) (by decide +kernel), List.forall_mem_cons.mpr ⟨List.mem_of_getElem? (i := 767) (by decide +kernel), List.forall_mem_cons.mpr ⟨List.mem_of_getElem? (i := 775) (by decide +kernel), List.forall_mem_cons.mpr ⟨List.mem_of_getElem? (i := 776) (by decide +kernel), List.forall_mem_cons.mpr ⟨List.mem_of_getElem? (i := 633) (by decide +kernel), List.forall_mem_cons.mpr ⟨List.mem_of_getElem? (i := 634) (by decide +kernel), List.forall_mem_cons.mpr ⟨List.mem_of_getElem? (i := 327) (by decide +kernel), List.forall_mem_cons.mpr ⟨List.mem_of_getElem? (i := 825) (by decide +kernel), List.forall_mem_cons.mpr ⟨List.mem_of_getElem? (i := 826) (by decide +kernel), List.forall_mem_cons.mpr ⟨List.mem_of_getElem? (i := 560) (by decide +kernel), List.forall_mem_cons.mpr ⟨List.mem_of_getElem? (i := 561) (by decide +kernel), List.forall_mem_cons.mpr ⟨List.mem_of_getElem? (i := 573) (by decide +kernel), List.forall_mem_cons.mpr ⟨List.mem_of_getElem? (i := 362) (by decide +kernel), List.forall_mem_cons.mpr ⟨List.mem_of_getElem? (i := 224) (by decide +kernel), List.forall_mem_cons.mpr ⟨List.mem_of_getElem? (i := 690) (by decide +kernel), List.forall_mem_cons.mpr ⟨List.mem_of_getElem? (i := 305) (by decide +kernel), List.forall_mem_cons.mpr ⟨List.mem_of_getElem? (i := 612) (by decide +kernel), List.forall_mem_cons.mpr ⟨List.mem_of_getElem? (i := 799) (by decide +kernel), fun _ h => absurd h List.not_mem_nil⟩⟩⟩⟩⟩⟩⟩⟩⟩⟩⟩⟩⟩⟩⟩⟩⟩⟩⟩⟩⟩⟩⟩⟩⟩⟩⟩⟩⟩⟩⟩⟩⟩⟩⟩⟩⟩
set_option maxRecDepth 20000 in
theorem zl_W : ∀ w ∈ zWl, w ∈ lw_tbl := List.forall_mem_cons.mpr ⟨List.mem_of_getElem? (i := 838) (by decide +kernel), List.forall_mem_cons.mpr ⟨List.mem_of_getElem? (i := 836) (by decide +kernel), List.forall_mem_cons.mpr ⟨List.mem_of_getElem? (i := 829) (by decide +kernel), List.forall_mem_cons.mpr ⟨List.mem_of_getElem? (i := 272) (by decide +kernel), List.forall_mem_cons.mpr ⟨List.mem_of_getElem? (i := 365) (by decide +kernel), List.forall_mem_cons.mpr ⟨List.mem_of_getElem? (i := 185) (by decide +kernel), List.forall_mem_cons.mpr ⟨List.mem_of_getElem? (i := 187) (by decide +kernel), List.forall_mem_cons.mpr ⟨List.mem_of_getElem? (i := 189) (by decide +kernel), List.forall_mem_cons.mpr ⟨List.mem_of_getElem? (i := 191) (by decide +kernel), List.forall_mem_cons.mpr ⟨List.mem_of_getElem? (i := 79) (by decide +kernel), List.forall_mem_cons.mpr ⟨List.mem_of_getElem? (i := 98) (by decide +kernel), List.forall_mem_cons.mpr ⟨List.mem_of_getElem? (i := 114) (by decide +kernel), List.forall_mem_cons.mpr ⟨List.mem_of_getElem? (i := 785) (by decide +kernel), List.forall_mem_cons.mpr ⟨List.mem_of_getElem? (i := 663) (by decide +kernel), fun _ h => absurd h List.not_mem_nil⟩⟩⟩⟩⟩⟩⟩⟩⟩⟩⟩⟩⟩⟩
theorem zl_in5 : ∀ w ∈ wsX50, w ∈ lw_tbl := fun w h => (gt_w0 w h).1
theorem zl_inJ : ∀ w ∈ wsJx4a65c0, w ∈ lw_tbl := fun w h => (gt_w1 w h).1
theorem zl_in1 : ∀ w ∈ wsX10, w ∈ lw_tbl := fun w h => (gt_w2 w h).1
theorem zl_in0 : ∀ w ∈ wsX00, w ∈ lw_tbl := fun w h => (gt_w3 w h).1
theorem zl_in3 : ∀ w ∈ wsX30, w ∈ lw_tbl := fun w h => (gt_w4 w h).1
theorem zl_in4 : ∀ w ∈ wsX40, w ∈ lw_tbl := fun w h => (gt_w5 w h).1
theorem zl_in2 : ∀ w ∈ wsX20, w ∈ lw_tbl := fun w h => (gt_w6 w h).1
/-- the classes and the kinds of arrays -/
theorem zl_K {args : Array Value} {s : State} (hts : ∀ w ∈ lw_tbl, w.before args s = true) : ∃ (D : va_G) (T : Nat → ClassId), va_K D vwCl (zT T) s := by
  obtain ⟨c0, i0, hk0⟩ := u_known (C := RJx4a65c) (T := TJx4a65c) (N := 3) (n := 3) hts zl_inJ (hts (.instantiable RJx4a65c 3) (List.mem_of_getElem? (i := 52) (by decide +kernel)))
  obtain ⟨c1, i1, hk1⟩ := u_known (C := RX0) (T := TX0) (N := 18) (n := 18) hts zl_in0 (hts (.instantiable RX0 18) (List.mem_of_getElem? (i := 470) (by decide +kernel)))
  obtain ⟨c2, i2, hk2⟩ := u_known (C := RX1) (T := TX1) (N := 2) (n := 2) hts zl_in1 (hts (.instantiable RX1 2) (List.mem_of_getElem? (i := 442) (by decide +kernel)))
  obtain ⟨c3, i3, hk3⟩ := u_known (C := RX2) (T := TX2) (N := 3) (n := 3) hts zl_in2 (hts (.instantiable RX2 3) (List.mem_of_getElem? (i := 78) (by decide +kernel)))
  obtain ⟨c4, i4, hk4⟩ := u_known (C := RX3) (T := TX3) (N := 3) (n := 3) hts zl_in3 (hts (.instantiable RX3 3) (List.mem_of_getElem? (i := 97) (by decide +kernel)))
  obtain ⟨c5, i5, hk5⟩ := u_known (C := RX4) (T := TX4) (N := 3) (n := 3) hts zl_in4 (hts (.instantiable RX4 3) (List.mem_of_getElem? (i := 113) (by decide +kernel)))
  obtain ⟨c6, i6, hk6⟩ := u_known (C := RX5) (T := TX5) (N := 8) (n := 8) hts zl_in5 (hts (.instantiable RX5 8) (List.mem_of_getElem? (i := 42) (by decide +kernel)))
  obtain ⟨dC, q0, q1, q2, q3, q4, q5, q6⟩ : ∃ f : Nat → ClassId, f 0 = c0 ∧ f 1 = c1 ∧ f 2 = c2 ∧ f 3 = c3 ∧ f 4 = c4 ∧ f 5 = c5 ∧ f 6 = c6 := ⟨fun k => match k with | 0 => c0 | 1 => c1 | 2 => c2 | 3 => c3 | 4 => c4 | 5 => c5 | _ => c6, rfl, rfl, rfl, rfl, rfl, rfl, rfl⟩
  obtain ⟨dI, r0, r1, r2, r3, r4, r5, r6⟩ : ∃ f : Nat → Nat → Nat, f 0 = i0 ∧ f 1 = i1 ∧ f 2 = i2 ∧ f 3 = i3 ∧ f 4 = i4 ∧ f 5 = i5 ∧ f 6 = i6 := ⟨fun k => match k with | 0 => i0 | 1 => i1 | 2 => i2 | 3 => i3 | 4 => i4 | 5 => i5 | _ => i6, rfl, rfl, rfl, rfl, rfl, rfl, rfl⟩
  rw [← q0, ← r0] at hk0
  rw [← q1, ← r1] at hk1
  rw [← q2, ← r2] at hk2
  rw [← q3, ← r3] at hk3
  rw [← q4, ← r4] at hk4
  rw [← q5, ← r5] at hk5
  rw [← q6, ← r6] at hk6
  obtain ⟨a0, k0, p0, e0, f0, g0⟩ := Cond.arrayClass_spec (hts (.arrayClass .int) (List.mem_of_getElem? (i := 95) (by decide +kernel)))
  obtain ⟨p3, a3, k3, d3, -, f3, g3, e3⟩ := Cond.arrayOver_spec (hts (.arrayOver (.object "java/lang/Object")) (List.mem_of_getElem? (i := 424) (by decide +kernel)))
  obtain ⟨p4, a4, k4, d4, -, f4, g4, e4⟩ := Cond.arrayOver_spec (hts (.arrayOver (.object "AnvilHouse$Steel")) (List.mem_of_getElem? (i := 50) (by decide +kernel)))
  obtain ⟨T, t0, t1, t2, t3, t4⟩ : ∃ f : Nat → ClassId, f 0 = a0 ∧ f 1 = a0 ∧ f 2 = a0 ∧ f 3 = a3 ∧ f 4 = a4 := ⟨fun k => match k with | 0 => a0 | 1 => a0 | 2 => a0 | 3 => a3 | _ => a4, rfl, rfl, rfl, rfl, rfl⟩
  have f1 := f0
  have f2 := f0
  have e1 := e0
  have e2 := e0
  rw [← t0] at e0 f0
  rw [← t1] at e1 f1
  rw [← t2] at e2 f2
  rw [← t3] at e3 f3
  rw [← t4] at e4 f4
  refine ⟨(dC, dI), T, fun k q hq => ?_, fun k q hq => ?_⟩
  · match k, hq with
    | 0, hq =>
      have hq : some (RJx4a65c, TJx4a65c, 3) = some q := hq
      obtain rfl := Option.some.inj hq
      exact hk0
    | 1, hq =>
      have hq : some (RX0, TX0, 18) = some q := hq
      obtain rfl := Option.some.inj hq
      exact hk1
    | 2, hq =>
      have hq : some (RX1, TX1, 2) = some q := hq
      obtain rfl := Option.some.inj hq
      exact hk2
    | 3, hq =>
      have hq : some (RX2, TX2, 3) = some q := hq
      obtain rfl := Option.some.inj hq
      exact hk3
    | 4, hq =>
      have hq : some (RX3, TX3, 3) = some q := hq
      obtain rfl := Option.some.inj hq
      exact hk4
    | 5, hq =>
      have hq : some (RX4, TX4, 3) = some q := hq
      obtain rfl := Option.some.inj hq
      exact hk5
    | 6, hq =>
      have hq : some (RX5, TX5, 8) = some q := hq
      obtain rfl := Option.some.inj hq
      exact hk6
    | k + 7, hq =>
      have h9 : (none : Option vw_C) = some q := (List.getElem?_eq_none (show vwCl.length ≤ k + 7 from Nat.le_add_left 7 k)).symm.trans hq
      cases h9
  · match k, hq with
    | 0, hq =>
      have hq : some (T 0, (.int : FieldType)) = some q := hq
      obtain rfl := Option.some.inj hq
      exact ⟨fun n z => ⟨fun k h => (by cases h), k0, f0, p0, g0⟩, e0⟩
    | 1, hq =>
      have hq : some (T 1, (.int : FieldType)) = some q := hq
      obtain rfl := Option.some.inj hq
      exact ⟨fun n z => ⟨fun k h => (by cases h), k0, f1, p0, g0⟩, e1⟩
    | 2, hq =>
      have hq : some (T 2, (.int : FieldType)) = some q := hq
      obtain rfl := Option.some.inj hq
      exact ⟨fun n z => ⟨fun k h => (by cases h), k0, f2, p0, g0⟩, e2⟩
    | 3, hq =>
      have hq : some (T 3, (.object "java/lang/Object" : FieldType)) = some q := hq
      obtain rfl := Option.some.inj hq
      exact ⟨fun n z => ⟨fun k h => (by cases h), k3, f3, p3, g3⟩, k3, p3, f3, g3, d3, e3⟩
    | 4, hq =>
      have hq : some (T 4, (.object "AnvilHouse$Steel" : FieldType)) = some q := hq
      obtain rfl := Option.some.inj hq
      exact ⟨fun n z => ⟨fun k h => (by cases h), k4, f4, p4, g4⟩, k4, p4, f4, g4, d4, e4⟩
    | k + 5, hq =>
      have h9 : (none : Option (ClassId × FieldType)) = some q := (List.getElem?_eq_none (show (zT T).length ≤ k + 5 from Nat.le_add_left 5 k)).symm.trans hq
      cases h9
def zl_ra (o : Option Value) : Nat := match o with
  | some (.ref a) => a
  | _ => 0
theorem zl_ra_eq {o : Option Value} {a : Nat} (h : o = some (.ref a)) : zl_ra o = a := by
  subst h
  rfl
/-- what the law's calls ask from above -/
theorem zl_X {b : Nat} {s : State} (hts : ∀ w ∈ lw_tbl, w.before #[Value.ref b] s = true) (hgv : (Jvm.Cond.and given_1 narrow_1).before #[Value.ref b] s = true) : ∃ (ea mi : Nat) (sa : Nat → Nat), zX ea mi sa (fun q => s.heap.size ≤ q) s s.heap := by
  have hg := flat_of_before _ hgv
  have hA : ∀ a : Nat, a < s.heap.size → ¬ (fun q : Nat => s.heap.size ≤ q) a := fun a h => Nat.not_le.mpr h
  have g1 : (Cond.arrayOf (.static "java/util/ArrayList" "DEFAULTCAPACITY_EMPTY_ELEMENTDATA" "[Ljava/lang/Object;") (.object "java/lang/Object")).before #[Value.ref b] s = true := hg _ (by decide +kernel)
  have g2 : (Cond.eq (.length (.static "java/util/ArrayList" "DEFAULTCAPACITY_EMPTY_ELEMENTDATA" "[Ljava/lang/Object;")) (.int 0)).before #[Value.ref b] s = true := hg _ (by decide +kernel)
  have g3 : (Cond.isRef (.mirror "[Ljava/lang/Object;")).before #[Value.ref b] s = true := hg _ (by decide +kernel)
  have g4 : (Cond.isRef (.static Bundle.tN "UNASSIGNED_STACK" Bundle.steD)).before #[Value.ref b] s = true := hg _ (by decide +kernel)
  have g5 : (Cond.isRef (.static Bundle.tN "SUPPRESSED_SENTINEL" Bundle.listD)).before #[Value.ref b] s = true := hg _ (by decide +kernel)
  have n1 : (Cond.not (.castable "java/lang/IllegalArgumentException" "java/lang/IndexOutOfBoundsException")).before #[Value.ref b] s = true := hg _ (by decide +kernel)
  have n2 : (Cond.not (.castable "java/lang/IllegalStateException" "java/lang/IndexOutOfBoundsException")).before #[Value.ref b] s = true := hg _ (by decide +kernel)
  have n3 : (Cond.not (.castable "java/lang/IllegalStateException" "java/lang/IllegalArgumentException")).before #[Value.ref b] s = true := hg _ (by decide +kernel)
  have iT : (Cond.initialized Bundle.tN).before #[Value.ref b] s = true := hts _ (List.mem_of_getElem? (i := 27) (by decide +kernel))
  have iL : (Cond.initialized "java/util/ArrayList").before #[Value.ref b] s = true := hts _ (List.mem_of_getElem? (i := 23) (by decide +kernel))
  have lL : (Cond.laysStatic "java/util/ArrayList" "DEFAULTCAPACITY_EMPTY_ELEMENTDATA" "[Ljava/lang/Object;").before #[Value.ref b] s = true := hts _ (List.mem_of_getElem? (i := 64) (by decide +kernel))
  have lU : (Cond.laysStatic Bundle.tN "UNASSIGNED_STACK" Bundle.steD).before #[Value.ref b] s = true := hts _ (List.mem_of_getElem? (i := 210) (by decide +kernel))
  have lS : (Cond.laysStatic Bundle.tN "SUPPRESSED_SENTINEL" Bundle.listD).before #[Value.ref b] s = true := hts _ (List.mem_of_getElem? (i := 212) (by decide +kernel))
  have oO : (Cond.arrayOver (.object "java/lang/Object")).before #[Value.ref b] s = true := hts _ (List.mem_of_getElem? (i := 424) (by decide +kernel))
  have oS : (Cond.arrayOver (.object "AnvilHouse$Steel")).before #[Value.ref b] s = true := hts _ (List.mem_of_getElem? (i := 50) (by decide +kernel))
  have dG : (Cond.declares ⟨"java/lang/Object", "getClass", "()Ljava/lang/Class;"⟩).before #[Value.ref b] s = true := hts _ (List.mem_of_getElem? (i := 843) (by decide +kernel))
  obtain ⟨ea, he1, he2⟩ := va_Tof (N := 0) (f := fun _ => .null) (by decide) g1 (va_eqt g2) (fun j hj => absurd hj (Nat.not_lt_zero j)) hA
  obtain ⟨mi, hmi⟩ := va_Mi.of g3
  obtain ⟨c5, i5, hk5⟩ := u_known (C := RX5) (T := TX5) (N := 8) (n := 8) hts zl_in5 (hts (.instantiable RX5 8) (List.mem_of_getElem? (i := 42) (by decide +kernel)))
  have hs : ∀ q ∈ zTx, ∃ a, vk_R RX5 q.1 q.2 a s := fun q hq => by
    have h1 := hts _ (zl_S q hq)
    obtain ⟨k, cf, i, a, -, -, -, -, -, h6⟩ := Cond.stringRef_spec hk5.2.1 h1
    exact ⟨a, vk_R.of h1 h6⟩
  refine ⟨ea, mi, fun k => zl_ra ((Term.string RX5 k).eval #[] s none [] s), ⟨⟨va_Zof lL iL he1 hA, he2⟩, ⟨vx_Zqof lU iT g4 hA, vx_Zqof lS iT g5 hA⟩, fun w hw => va_Nw.of (zWl_st w hw).1 (hts w (zl_W w hw)), va_AO.of oO, va_AO.of oS, hmi, va_Dc.of dG, fun q hq => ?_⟩, va_Nc.of n1, va_Nc.of n2, va_Nc.of n3⟩
  obtain ⟨a, ha⟩ := hs q hq
  show vk_R RX5 q.1 q.2 (zl_ra ((Term.string RX5 q.1).eval #[] s none [] s)) s
  rw [zl_ra_eq ha.2]
  exact ha
