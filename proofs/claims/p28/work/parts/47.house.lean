/-! ===== the house: what its methods ask from above; how they throw ===== -/
def zTx : List (Nat × String) := [(53, "heats are 1 to 9"), (58, "a hardness is 20 to 70"), (60, "a drop is 0 to 9"), (78, "there are 20 melts"), (87, "no such melt"), (90, "an area is 2 to 200"), (92, "there are 12 billets"), (135, "what is asked is 0 to 8"), (156, "a furnace is of 200 to 1300"), (165, "the billet may not be heated any more"), (174, "a blow is DRAW or UPSET"), (176, "a force is 1 to 20"), (178, "the billet has a crack"), (188, "1 to 200 can be cut"), (196, "there are 4 dies"), (205, "an area of a die is 1 to 400"), (211, "an energy is 1 to 50"), (213, "the die has no life"), (219, "the set is empty"), (221, "one of the set is not there"), (223, "a medium is OIL or WATER"), (229, "one is not warm enough or has a crack"), (234, "there are 20 loads"), (244, "a temper is at 100 to 700"), (249, "not quenched since the latest heat"), (269, "0 to 70 can be asked"), (271, "an act is FOLD, TWIST or CUT"), (273, "the core is below 900"), (290, "a job is of 200 to 1300"), (295, "12 jobs wait"), (299, "places are from 0"), (307, "no such steel"), (309, "no such billet"), (311, "no such die"), (313, "no such section"), (315, "minutes are 1 to 200"), (317, "a pattern is 0 to 255")]
def zWl : List Cond := [.castable RX0 "java/lang/Object", .castable RX1 "java/lang/Object", .castable RX4 "java/lang/Object", .castable "java/lang/IllegalArgumentException" "java/lang/IllegalArgumentException", .castable "java/lang/IllegalStateException" "java/lang/IllegalStateException", .castable "java/lang/IndexOutOfBoundsException" "java/lang/IndexOutOfBoundsException", .declares ⟨"java/lang/RuntimeException", "<init>", "(Ljava/lang/String;)V"⟩, .declares ⟨"java/lang/Exception", "<init>", "(Ljava/lang/String;)V"⟩, .declares ⟨"java/lang/Throwable", "<init>", "(Ljava/lang/String;)V"⟩, .methodLinkNest RX5 34 yX2_init RX5, .methodLinkNest RX5 41 yX3_init RX5, .methodLinkNest RX5 46 yX4_init RX5, .methodLinkNest RX0 133 yX5_neighbourOf RX5, .methodLinkNest RX0 78 yX5_isMoreThanThrice RX5]
def zSt (w : Cond) : Prop := w.onTables = true ∧ ∀ u U : State, (u.vm = U.vm ∨ u.WarmedH U.vm) → va_Nw w u → va_Nw w U
theorem zSt_c (C T : String) : zSt (.castable C T) := ⟨rfl, fun _ _ h hN => h.elim (fun e => va_Nw.same rfl e hN) (fun hW => va_Nw.warmC hW hN)⟩
theorem zSt_d (x : MethodName) : zSt (.declares x) := ⟨rfl, fun _ _ h hN => h.elim (fun e => va_Nw.same rfl e hN) (fun hW => va_Nw.warmD hW hN)⟩
theorem zSt_m (a : String) (i : Nat) (x : MethodName) (h : String) : zSt (.methodLinkNest a i x h) := ⟨rfl, fun _ _ h hN => h.elim (fun e => va_Nw.same rfl e hN) (fun hW => va_Nw.warmM hW hN)⟩
theorem zWl_st : ∀ w ∈ zWl, zSt w := List.forall_mem_cons.mpr ⟨zSt_c _ _, List.forall_mem_cons.mpr ⟨zSt_c _ _, List.forall_mem_cons.mpr ⟨zSt_c _ _, List.forall_mem_cons.mpr ⟨zSt_c _ _, List.forall_mem_cons.mpr ⟨zSt_c _ _, List.forall_mem_cons.mpr ⟨zSt_c _ _, List.forall_mem_cons.mpr ⟨zSt_d _, List.forall_mem_cons.mpr ⟨zSt_d _, List.forall_mem_cons.mpr ⟨zSt_d _, List.forall_mem_cons.mpr ⟨zSt_m _ _ _ _, List.forall_mem_cons.mpr ⟨zSt_m _ _ _ _, List.forall_mem_cons.mpr ⟨zSt_m _ _ _ _, List.forall_mem_cons.mpr ⟨zSt_m _ _ _ _, List.forall_mem_cons.mpr ⟨zSt_m _ _ _ _, fun _ h => absurd h List.not_mem_nil⟩⟩⟩⟩⟩⟩⟩⟩⟩⟩⟩⟩⟩⟩
/-- of the tables -/
def zTb (mi : Nat) (sa : Nat → Nat) (U : State) : Prop := (∀ w ∈ zWl, va_Nw w U) ∧ va_AO "java/lang/Object" U ∧ va_AO "AnvilHouse$Steel" U ∧ va_Mi "[Ljava/lang/Object;" mi U ∧ va_Dc U ∧ ∀ q ∈ zTx, vk_R RX5 q.1 q.2 (sa q.1) U
theorem zTb_k (mi : Nat) (sa : Nat → Nat) (u U : State) (h : u.vm = U.vm ∨ u.WarmedH U.vm) (q : zTb mi sa u) : zTb mi sa U :=
  ⟨fun w hw => (zWl_st w hw).2 u U h (q.1 w hw), va_AO.moved (zAl h) q.2.1, va_AO.moved (zAl h) q.2.2.1, va_Mi.moved (zAl h) q.2.2.2.1, va_Dc.moved (zAl h) q.2.2.2.2.1, fun x hx => h.elim (fun e => vk_R.same e.symm (q.2.2.2.2.2 x hx)) (fun hW => vk_R.warm hW (q.2.2.2.2.2 x hx))⟩
def zW (ea mi : Nat) (sa : Nat → Nat) (A : Nat → Prop) (U : State) (H : Heap) : Prop := zE2 ea A U H ∧ (vx_Zq Bundle.tN "UNASSIGNED_STACK" Bundle.steD A U H ∧ vx_Zq Bundle.tN "SUPPRESSED_SENTINEL" Bundle.listD A U H) ∧ zTb mi sa U
theorem zq_k (C n d : String) : zHp (vx_Zq C n d) := ⟨fun _ _ _ _ h q => vx_Zq.moved (zAl h) q, fun _ _ _ _ hq h => vx_Zq.kept h hq, fun _ _ _ _ hAB h => vx_Zq.narrow h hAB⟩
theorem zW_k (ea mi : Nat) (sa : Nat → Nat) : zHp (zW ea mi sa) := zHp_and (zE2_k ea) (zHp_and (zHp_and (zq_k _ _ _) (zq_k _ _ _)) (zHp_tab (zTb_k mi sa)))
theorem zWw {ea mi : Nat} {sa : Nat → Nat} {A : Nat → Prop} {U : State} {H : Heap} (h : zW ea mi sa A U H) {w : Cond} (hw : w ∈ zWl) : va_Nw w U := h.2.2.1 w hw
/-- what the parts ask, out of it -/
theorem zW_F0 {ea mi : Nat} {sa : Nat → Nat} {A : Nat → Prop} {U : State} {H : Heap} (h : zW ea mi sa A U H) : zF RX0 ea A U H := ⟨h.1, h.2.2.2.1, zWw h (by decide +kernel)⟩
theorem zW_F1 {ea mi : Nat} {sa : Nat → Nat} {A : Nat → Prop} {U : State} {H : Heap} (h : zW ea mi sa A U H) : zF RX1 ea A U H := ⟨h.1, h.2.2.2.1, zWw h (by decide +kernel)⟩
theorem zW_F4 {ea mi : Nat} {sa : Nat → Nat} {A : Nat → Prop} {U : State} {H : Heap} (h : zW ea mi sa A U H) : zF RX4 ea A U H := ⟨h.1, h.2.2.2.1, zWw h (by decide +kernel)⟩
theorem zW_N {ea mi : Nat} {sa : Nat → Nat} {A : Nat → Prop} {U : State} {H : Heap} (h : zW ea mi sa A U H) : zN U := ⟨zWw h (by decide +kernel), zWw h (by decide +kernel)⟩
theorem zW_G {ea mi : Nat} {sa : Nat → Nat} {A : Nat → Prop} {U : State} {H : Heap} (h : zW ea mi sa A U H) {C : String} (hC : Cond.castable C "java/lang/Object" ∈ zWl) : zGr C mi U := ⟨h.2.2.2.1, h.2.2.2.2.2.1, h.2.2.2.2.2.2.1, zWw h hC⟩
/-! throws -/
abbrev zXC (D : va_G) (T : Nat → ClassId) (w : va_W) (E : String) (sz : Nat) : String → State → State → Prop := vx_X (fun _ : Unit => True) (fun E' _ t => E' = E ∧ zPost D T w (zA (w.map Prod.fst) sz) t) (zA (w.map Prod.fst) sz)
abbrev zNo : Array Value → State → Outcome → State → Prop := va_Qi (fun _ (_ : Unit) => False) (fun _ _ => True) (fun _ => False)
/-- a method that throws an E and leaves the cells as they are -/
def ZB (l : Launch) (y : MethodName) (ws : List Cond) (rm : Room) (P : (Nat → Prop) → State → Heap → Prop) (D : va_G) (T : Nat → ClassId) (w : va_W) (as : List Value) (E : String) : Prop := ∀ sz : Nat, vx_Met l y ws rm (va_Pc as (zPreH P D T w sz)) zNo (zXC D T w E sz) 1 6 (zA (w.map Prod.fst) sz)
theorem z_inB {l : Launch} {y : MethodName} {ws ws' : List Cond} {rm : Room} {P : (Nat → Prop) → State → Heap → Prop} {D : va_G} {T : Nat → ClassId} {w : va_W} {as : List Value} {E : String} {cc : ByteArray} {maxL : Nat} {ret : Option FieldType}
    (hy : plainName y.cls = true) (hw : ws = Cond.code y cc maxL ret :: ws') (hlen : (lg_sl as).length ≤ maxL)
    (body : ∀ (p : Program) (e : Env) (s : State) (m : MethodId) (args : Array Value) (below : List Frame) (meth : Method) (c : Code) (ls : Array Slot) (A : Nat → Prop), A = zA (w.map Prod.fst) s.heap.size → zC p s m args c cc maxL y.cls ws D T A → P A s s.heap → zM D A s.heap w s.heap [] → lv_has ls maxL (lv_args 0 as) → ((∀ x ∈ c.exceptionTable.toList, False) ∧ meth.locks = false) →
      W p l e rm s m args below meth c s.heap [] 0 0 (vx_MQ below zNo (zXC D T w E s.heap.size) args s 1 6 A) (F0 m 0 ls [])) : ZB l y ws rm P D T w as E := by
  intro sz
  refine vx_ofW (cc := cc) (maxL := maxL) (ret := ret) hy hw ?_
  intro p e s m args below meth c s₁ B hml hnt hv
  obtain ⟨rfl, ⟨hsz, hP, hK, hD0⟩, hN⟩ := hv
  subst hsz
  rw [lg_entry_eq]
  exact body p e s m _ below meth c _ _ rfl ⟨⟨B.exec, B.bytes, hml, findClass_of_methodNamed B.named, atoms_spec (ws := ws) B.pre⟩, hK, fun q h => Or.inr h⟩ hN ⟨hP, zA_self hD0, va_S.rf⟩ (lv_entry as hlen) ⟨hnt, B.notSynchronized⟩
abbrev zNm : List String := ["java/lang/RuntimeException", "java/lang/Exception"]
def zThr (X : String) (ik ic : Nat) : Prop := Bundle.fit X = true ∧ (∀ w ∈ Cond.classLink RX5 ik X :: Cond.initialized X :: vx_atS RX5 ic X zNm, vx_ot w = true) ∧ ∀ w ∈ (vx_atS RX5 ic X zNm).filter (fun w => !goodWord w), w ∈ zWl
theorem zThr_A : zThr "java/lang/IllegalArgumentException" 51 55 := ⟨by decide +kernel, by decide +kernel, by decide +kernel⟩
theorem zThr_S : zThr "java/lang/IllegalStateException" 76 80 := ⟨by decide +kernel, by decide +kernel, by decide +kernel⟩
theorem zThr_I : zThr "java/lang/IndexOutOfBoundsException" 85 89 := ⟨by decide +kernel, by decide +kernel, by decide +kernel⟩
theorem z_put_same {ws wc : va_W} {is : List Nat} (hC : is.map (fun i => ws[i]?) = wc.map some) (hnd : va_nd is = true) : z_put ws is wc = ws := by
  have key : ∀ (is : List Nat) (wc : va_W), is.map (fun i => ws[i]?) = wc.map some → z_put ws is wc = ws := by
    intro is
    induction is with
    | nil =>
      intro wc h
      cases wc with
      | nil => rw [z_put, List.append_nil]
      | cons a b => cases h
    | cons i is ih =>
      intro wc h
      cases wc with
      | nil => cases h
      | cons q wc =>
        have h1 : ws[i]? = some q := (List.cons.inj h).1
        have h2 := (List.cons.inj h).2
        rw [z_put]
        have e : ws.set i q = ws := by
          obtain ⟨hl, hv⟩ := List.getElem?_eq_some_iff.mp h1
          rw [← hv, List.set_getElem_self]
        rw [e]
        exact ih wc h2
  exact key is wc hC
section ZTHROW
variable {p : Program} {l : Launch} {e : Env} {R : Room} {s : State} {m : MethodId} {args : Array Value} {below : List Frame} {meth : Method} {c : Code} {H : Heap} {locs : List Loc} {cells slots : Nat}
variable {cc : ByteArray} {nL : Nat} {own C : String} {Ts : List Cond} {D : va_G} {T : Nat → ClassId} {A : Nat → Prop} {ws w : va_W} {pc : Nat} {ls : Array Slot} {rest : List Value} {E : String}
variable {y : MethodName} {bytes : ByteArray} {maxL index n mc ms b : Nat} {ret : Option FieldType} {wsy : List Cond} {rm : Room} {wc : va_W} {As : List Value} {P : (Nat → Prop) → State → Heap → Prop} {ea mi : Nat} {sa : Nat → Nat}
theorem z_xc (Z : zC p s m args c cc nL own Ts D T A) (M : zM D A s.heap ws H locs) (hA : A = zA (w.map Prod.fst) s.heap.size) (hwf : ws = w) {t : State} (h1 : s.vm.Alike t.vm) (h2 : H.size ≤ t.heap.size) (h3 : ∀ q : Nat, q < H.size → t.heap[q]? = H[q]?) : zXC D T w E s.heap.size E s t := by
  subst hwf; subst hA
  obtain ⟨hP, hD, hS⟩ := M
  exact ⟨(), trivial, ⟨rfl, fun k q hq => (hP k q hq).kept (h3 _ (hP k q hq).lt), va_K.moved h1 Z.2.1, hD⟩, Nat.le_trans hS.1 h2, fun q hq hn => (h3 q (Nat.lt_of_lt_of_le hq hS.1)).trans (hS.2.1 q hq hn)⟩
theorem z_throw {ik ic is : Nat} {X text : String} (Z : zC p s m args c cc nL RX5 Ts D T A) (hW : zW ea mi sa A s s.heap) (M : zM D A s.heap ws H locs) (hA : A = zA (w.map Prod.fst) s.heap.size) (hE : (∀ x ∈ c.exceptionTable.toList, False) ∧ meth.locks = false) (hls : ls.size = nL) (hfl : l.stackTraces = false)
    (hX : zThr X ik ic) (hin : ∀ w ∈ Cond.classLink RX5 ik X :: Cond.initialized X :: (vx_atS RX5 ic X zNm).filter goodWord, w ∈ Ts) (htx : (is, text) ∈ zTx)
    (d0 : decode cc pc = .ok (.new ik, 3)) (d3 : decode cc (pc + 3) = .ok (.dup, 1)) (d4 : decode cc (pc + 4) = .ok (.ldc is, 2)) (d6 : decode cc (pc + 6) = .ok (.invokespecial ic, 3)) (d9 : decode cc (pc + 9) = .ok (.athrow, 1))
    (hfr : 6 ≤ R.frames) (hlo : 82 ≤ R.locals) (hc : cells + 1 ≤ R.cells ∧ cells + 1 ≤ 1) (hs : slots + 6 ≤ R.slots ∧ slots + 6 ≤ 6) (hwf : ws = w) :
    W p l e R s m args below meth c H locs cells slots (vx_MQ below zNo (zXC D T w X s.heap.size) args s 1 6 A) (F0 m pc ls []) := by
  have hts := Z.1.2.2.2.2
  exact vx_throwS (text := text) (sa := sa is) (A := A) (names := zNm) Z.1.1 Z.1.2.1 hfl Z.1.2.2.2.1 hX.1 (by decide +kernel) (hts _ (hin _ List.mem_cons_self)) (hts _ (hin _ (List.mem_cons_of_mem _ List.mem_cons_self))) (hW.2.2.2.2.2.2.2 (is, text) htx)
    (vx_hat (fun w hw => hts w (hin w (List.mem_cons_of_mem _ (List.mem_cons_of_mem _ hw)))) hX.2.2 (fun w hw => (hW.2.2.1 w hw).use (zWl_st w hw).1)) hX.2.1 hW.2.1.1 hW.2.1.2 M.2.2 (hls.trans Z.1.2.2.1.symm) d0 d3 d4 d6 d9 (fun x hx => (hE.1 x hx).elim) hfr hlo hc.1 hs.1 hE.2
    (fun t h1 h2 h3 => z_xc Z M hA hwf h1 h2 h3) (fun z hz => M.2.2.2.2 z hz) hc.2 hs.2
theorem z_throwW {ik ic is : Nat} {X text : String} (Z : zC p s m args c cc nL RX5 Ts D T A) (hW : zW ea mi sa A s s.heap) (M : zM D A s.heap ws H locs) (hA : A = zA (w.map Prod.fst) s.heap.size) (hE : (∀ x ∈ c.exceptionTable.toList, False) ∧ meth.locks = false) (hls : ls.size = nL) (hfl : l.stackTraces = false)
    (hX : zThr X ik ic) (hin : ∀ w ∈ Cond.classLink RX5 ik X :: Cond.initialized X :: (vx_atS RX5 ic X zNm).filter goodWord, w ∈ Ts) (htx : (is, text) ∈ zTx)
    (d0 : decode cc pc = .ok (.new ik, 3)) (d3 : decode cc (pc + 3) = .ok (.dup, 1)) (d4 : decode cc (pc + 4) = .ok (.ldc_w is, 3)) (d7 : decode cc (pc + 7) = .ok (.invokespecial ic, 3)) (d10 : decode cc (pc + 10) = .ok (.athrow, 1))
    (hfr : 6 ≤ R.frames) (hlo : 82 ≤ R.locals) (hc : cells + 1 ≤ R.cells ∧ cells + 1 ≤ 1) (hs : slots + 6 ≤ R.slots ∧ slots + 6 ≤ 6) (hwf : ws = w) :
    W p l e R s m args below meth c H locs cells slots (vx_MQ below zNo (zXC D T w X s.heap.size) args s 1 6 A) (F0 m pc ls []) := by
  have hts := Z.1.2.2.2.2
  exact vx_throwSW (text := text) (sa := sa is) (A := A) (names := zNm) Z.1.1 Z.1.2.1 hfl Z.1.2.2.2.1 hX.1 (by decide +kernel) (hts _ (hin _ List.mem_cons_self)) (hts _ (hin _ (List.mem_cons_of_mem _ List.mem_cons_self))) (hW.2.2.2.2.2.2.2 (is, text) htx)
    (vx_hat (fun w hw => hts w (hin w (List.mem_cons_of_mem _ (List.mem_cons_of_mem _ hw)))) hX.2.2 (fun w hw => (hW.2.2.1 w hw).use (zWl_st w hw).1)) hX.2.1 hW.2.1.1 hW.2.1.2 M.2.2 (hls.trans Z.1.2.2.1.symm) d0 d3 d4 d7 d10 (fun x hx => (hE.1 x hx).elim) hfr hlo hc.1 hs.1 hE.2
    (fun t h1 h2 h3 => z_xc Z M hA hwf h1 h2 h3) (fun z hz => M.2.2.2.2 z hz) hc.2 hs.2
theorem z_callB (hk : zHp P) (hPs : P A s s.heap) (Z : zC p s m args c cc nL own Ts D T A) (M : zM D A s.heap ws H locs) (hA : A = zA (w.map Prod.fst) s.heap.size) (hE : (∀ x ∈ c.exceptionTable.toList, False) ∧ meth.locks = false) (hM : ZB l y wsy rm P D T wc (.ref b :: As) E) (cw : CallW R s args own C index y bytes maxL ret wsy rm 1 6 n)
    (is : List Nat) (hC : is.map (fun i => ws[i]?) = wc.map some) (hnd : va_nd is = true)
    (hrecv : ∃ cell : Cell, H[b]? = some cell ∧ cell.vm.isStatics = false ∧ s.vm.findClass C = some cell.cls) (hn : As.length = n) (hls : ls.size = nL) (hW : (rest.map fun v => v.category).sum ≤ 8) (hdg : decode cc pc = .ok (.invokevirtual index, 3)) (hroom : cells + 1 ≤ R.cells ∧ slots + 6 ≤ R.slots) (hroom2 : cells + 1 ≤ 1 ∧ slots + 6 ≤ 6) (hwf : ws = w) {st : List Value} (hst : st = As.reverse ++ .ref b :: rest) :
    W p l e R s m args below meth c H locs cells slots (vx_MQ below zNo (zXC D T w E s.heap.size) args s 1 6 A) (F0 m pc ls st) := by
  subst hst
  have hmz := Z.1.2.2.1
  obtain ⟨S9, hK, hA9⟩ := Z
  obtain ⟨hP, hD, hS⟩ := M
  have hF := z_free hD hS hA9 is hC
  have hPc : va_P D vwCl wc H := fun k q hq => by
    obtain ⟨i, -, h2⟩ := z_in hC hq
    exact hP i q h2
  have hDc : va_D (fun _ => True) wc := ⟨fun i j x y hx hy hxy => by
    obtain ⟨a, h1, h2⟩ := z_in hC hx
    obtain ⟨b, g1, g2⟩ := z_in hC hy
    have e := hD.1 a b x y h2 g2 hxy
    subst e
    exact va_nd_inj is hnd i j a h1 g1, fun _ _ _ => trivial⟩
  have hPH : P (zA (wc.map Prod.fst) H.size) s H := hk.2.2 A _ s H hF (hk.2.1 A s s.heap H hS.2.1 hPs)
  refine vx_calli (vx_runV (As := As) (rest := rest) S9 (hM H.size) cw ⟨z_blindH hk, hrecv, fun U hU hW => ⟨rfl, ⟨by rw [hU], by rw [hU]; exact hPc, va_K.moved hW.alike hK, hDc⟩, by rw [hU]; exact hk.1 _ s U H (Or.inr hW) hPH⟩⟩ rfl hn hls rfl (lv_room hW) hdg hroom) hS (fun q _ h => h.elim) hF (fun q _ h => hF q h) (fun E1 ce q9 u t H1 locs1 ht hvm hpx hB hz1 hk1 hS1 hcell hv hcl => ?_) (fun r u t H1 locs1 ht hvm hw _ _ _ _ => hw.elim)
  obtain ⟨hE1, hP1, hK1, hD1⟩ := hB
  subst hE1
  rw [ht] at hP1
  have hJ := z_join hP hD is hC hnd hk1 hF hP1 hD1 (fun j hj => rfl) (Nat.le_refl _)
  rw [z_put_same hC hnd] at hJ
  refine vx_out (fun x hx => (hE.1 x hx).elim) hE.2 hcell hv hcl (fun t9 ht9 hal => ?_) (fun z hz => hS1.2.2 z hz) hroom2.1 hroom2.2
  subst hwf; subst hA; subst ht9
  exact ⟨(), trivial, ⟨rfl, hJ.1, va_K.moved hal hK, hJ.2⟩, hS1.1, hS1.2.1⟩
theorem z_callSB (hk : zHp P) (hPs : P A s s.heap) (Z : zC p s m args c cc nL own Ts D T A) (M : zM D A s.heap ws H locs) (hA : A = zA (w.map Prod.fst) s.heap.size) (hE : (∀ x ∈ c.exceptionTable.toList, False) ∧ meth.locks = false) (hM : ZB l y wsy rm P D T wc As E) (cw : CallB R s args own index y bytes maxL ret wsy rm 1 6 n ∧ (Cond.static y).before args s = true)
    (is : List Nat) (hC : is.map (fun i => ws[i]?) = wc.map some) (hnd : va_nd is = true)
    (hn : As.length = n) (hls : ls.size = nL) (hW : (rest.map fun v => v.category).sum ≤ 8) (hdg : decode cc pc = .ok (.invokestatic index, 3)) (hroom : cells + 1 ≤ R.cells ∧ slots + 6 ≤ R.slots) (hroom2 : cells + 1 ≤ 1 ∧ slots + 6 ≤ 6) (hwf : ws = w) {st : List Value} (hst : st = As.reverse ++ rest) :
    W p l e R s m args below meth c H locs cells slots (vx_MQ below zNo (zXC D T w E s.heap.size) args s 1 6 A) (F0 m pc ls st) := by
  subst hst
  have hmz := Z.1.2.2.1
  obtain ⟨S9, hK, hA9⟩ := Z
  obtain ⟨hP, hD, hS⟩ := M
  have hF := z_free hD hS hA9 is hC
  have hPc : va_P D vwCl wc H := fun k q hq => by
    obtain ⟨i, -, h2⟩ := z_in hC hq
    exact hP i q h2
  have hDc : va_D (fun _ => True) wc := ⟨fun i j x y hx hy hxy => by
    obtain ⟨a, h1, h2⟩ := z_in hC hx
    obtain ⟨b, g1, g2⟩ := z_in hC hy
    have e := hD.1 a b x y h2 g2 hxy
    subst e
    exact va_nd_inj is hnd i j a h1 g1, fun _ _ _ => trivial⟩
  have hPH : P (zA (wc.map Prod.fst) H.size) s H := hk.2.2 A _ s H hF (hk.2.1 A s s.heap H hS.2.1 hPs)
  refine vx_calli (vx_runS (As := As) (rest := rest) S9 (hM H.size) cw ⟨z_blindH hk, fun U hU hW => ⟨rfl, ⟨by rw [hU], by rw [hU]; exact hPc, va_K.moved hW.alike hK, hDc⟩, by rw [hU]; exact hk.1 _ s U H (Or.inr hW) hPH⟩⟩ rfl hn hls rfl (lv_room hW) hdg hroom) hS (fun q _ h => h.elim) hF (fun q _ h => hF q h) (fun E1 ce q9 u t H1 locs1 ht hvm hpx hB hz1 hk1 hS1 hcell hv hcl => ?_) (fun r u t H1 locs1 ht hvm hw _ _ _ _ => hw.elim)
  obtain ⟨hE1, hP1, hK1, hD1⟩ := hB
  subst hE1
  rw [ht] at hP1
  have hJ := z_join hP hD is hC hnd hk1 hF hP1 hD1 (fun j hj => rfl) (Nat.le_refl _)
  rw [z_put_same hC hnd] at hJ
  refine vx_out (fun x hx => (hE.1 x hx).elim) hE.2 hcell hv hcl (fun t9 ht9 hal => ?_) (fun z hz => hS1.2.2 z hz) hroom2.1 hroom2.2
  subst hwf; subst hA; subst ht9
  exact ⟨(), trivial, ⟨rfl, hJ.1, va_K.moved hal hK, hJ.2⟩, hS1.1, hS1.2.1⟩
end ZTHROW
