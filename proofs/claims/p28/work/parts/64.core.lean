/-! ===== the law's own methods: the world is theirs whole ===== -/
theorem Met_room {l : Launch} {y : MethodName} {ws : List Cond} {rm rm' : Room} {Pc : Array Value → State → Prop} {Qc : Array Value → State → Outcome → State → Prop} {mc ms mc' ms' : Nat} {free : Addr → Prop} (h : Met l y ws rm Pc Qc mc ms free) (hr : rm.frames ≤ rm'.frames ∧ rm.locals ≤ rm'.locals ∧ rm.cells ≤ rm'.cells ∧ rm.slots ≤ rm'.slots) (hm : mc ≤ mc' ∧ ms ≤ ms') : Met l y ws rm' Pc Qc mc' ms' free := by
  intro p e ha hc hk s m args below hfr happ hP hx
  have happ' : (headSpec ws rm).appliesLoose y e.platform s = true := by
    rw [Spec.appliesLoose_iff hfr] at happ ⊢
    obtain ⟨a1, a2, a3, a4, a5, a6, a7, a8⟩ := happ
    refine ⟨a1, a2, a3, a4, a5, a6, ?_, a8⟩
    have a7 : s.hasRoom e.platform rm' = true := a7
    show s.hasRoom e.platform rm = true
    unfold State.hasRoom at a7 ⊢
    simp only [Bool.and_eq_true, decide_eq_true_eq] at a7 ⊢
    obtain ⟨⟨⟨⟨b0, b1, b2, b3, b4, b5⟩, b6⟩, b7⟩, b8⟩ := a7
    obtain ⟨c1, c2, c3, c4⟩ := hr
    refine ⟨⟨⟨⟨?_, ?_, ?_, ?_, ?_, b5⟩, ?_⟩, ?_⟩, b8⟩
    · exact Nat.le_trans (Nat.add_le_add_right (Nat.add_le_add_left c2 _) _) b0
    · exact Nat.le_trans (Nat.add_le_add_left c1 _) b1
    · exact Nat.le_trans (Nat.add_le_add_left c1 _) b2
    · exact Nat.le_trans (Nat.add_le_add_left c2 _) b3
    · exact Nat.le_trans (Nat.add_le_add_left c2 _) b4
    · exact Nat.le_trans (Nat.add_le_add_left c3 _) b6
    · exact Nat.le_trans (Nat.add_le_add_left c4 _) b7
  obtain ⟨n, o, h1, h2, h3, h4, L, h5, h6⟩ := h p e ha hc hk s m args below hfr happ' hP hx
  exact ⟨n, o, h1, h2, h3, h4, L, ⟨h5.1, h5.2.1, h5.2.2.mono hm.1 hm.2⟩, h6⟩
theorem zIH_room {l : Launch} {y : MethodName} {ws : List Cond} {rm rm' : Room} {P : (Nat → Prop) → State → Heap → Prop} {D : va_G} {T : Nat → ClassId} {S : Type} {w : va_W} {w' : S → va_W} {as : List Value} {rv : Int32} {mc ms mc' ms' : Nat} (h : ZIH l y ws rm P D T w w' as rv mc ms) (hr : rm.frames ≤ rm'.frames ∧ rm.locals ≤ rm'.locals ∧ rm.cells ≤ rm'.cells ∧ rm.slots ≤ rm'.slots) (hm : mc ≤ mc' ∧ ms ≤ ms') : ZIH l y ws rm' P D T w w' as rv mc' ms' := fun sz => Met_room (h sz) hr hm
theorem va_PD {D : va_G} {A : Nat → Prop} {H : Heap} {ws w2 gb : va_W} (h : List.Perm ws (w2 ++ gb)) (hP : va_P D vwCl ws H) (hD : va_D A ws) : va_P D vwCl w2 H ∧ va_D A w2 := by
  have M : zM D A H ws H [] := ⟨hP, hD, va_S.rf⟩
  have M2 := zM_drop (zM_perm h M)
  exact ⟨M2.1, M2.2.1⟩
theorem zIH_post {l : Launch} {y : MethodName} {ws : List Cond} {rm : Room} {P : (Nat → Prop) → State → Heap → Prop} {D : va_G} {T : Nat → ClassId} {S S2 : Type} {w : va_W} {w1 : S → va_W} {w2 : S2 → va_W} {as : List Value} {rv : Int32} {mc ms : Nat} (h : ZIH l y ws rm P D T w w1 as rv mc ms) (hp : ∀ u : S, ∃ (v : S2) (gb : va_W), List.Perm (w1 u) (w2 v ++ gb)) : ZIH l y ws rm P D T w w2 as rv mc ms := by
  intro sz
  refine Met_mono (h sz) (fun a s q => q) (fun a s o t q hq => ?_) (fun q hq => hq)
  obtain ⟨⟨r, u, e1, e2, hP1, hK1, hD1⟩, hz⟩ := hq
  obtain ⟨v, gb, hv⟩ := hp u
  obtain ⟨g1, g2⟩ := va_PD hv hP1 hD1
  exact ⟨⟨r, v, e1, e2, g1, hK1, g2⟩, hz⟩
theorem z_inIHC {l : Launch} {y : MethodName} {ws ws' : List Cond} {rm : Room} {P : (Nat → Prop) → State → Heap → Prop} {D : va_G} {T : Nat → ClassId} {S : Type} {w : va_W} {w' : S → va_W} {as : List Value} {rv : Int32} {mc ms : Nat} {cc : ByteArray} {maxL : Nat} {rt : FieldType}
    (hy : plainName y.cls = true) (hw : ws = Cond.code y cc maxL (some rt) :: ws') (hlen : (lg_sl as).length ≤ maxL)
    (body : ∀ (p : Program) (e : Env) (s : State) (m : MethodId) (args : Array Value) (below : List Frame) (meth : Method) (c : Code) (ls : Array Slot) (A : Nat → Prop) (Q : State → Prop), zC p s m args c cc maxL y.cls ws D T A → P A s s.heap → zM D A s.heap w s.heap [] → lv_has ls maxL (lv_args 0 as) →
      (∀ (H : Heap) (locs : List Loc) (cells slots pc : Nat) (ls : Array Slot) (v : Int32) (wf : va_W) (u : S), zM D A s.heap wf H locs → wf = w' u → v = rv → narrow rt (.int v) = .int v → cells ≤ mc → slots ≤ ms → decode cc pc = .ok (.ireturn, 1) → W p l e rm s m args below meth c H locs cells slots Q (F0 m pc ls [.int v])) →
      W p l e rm s m args below meth c s.heap [] 0 0 Q (F0 m 0 ls [])) : ZIH l y ws rm P D T w w' as rv mc ms := by
  intro sz
  refine Met.ofW (cc := cc) (maxL := maxL) (ret := some rt) hy hw ?_
  intro p e s m args below meth c s₁ B hml hv
  obtain ⟨rfl, ⟨hsz, hP, hK, hD0⟩, hN⟩ := hv
  subst hsz
  rw [lg_entry_eq]
  refine body p e s m _ below meth c _ _ _ ⟨⟨B.exec, B.bytes, hml, findClass_of_methodNamed B.named, atoms_spec (ws := ws) B.pre⟩, hK, fun q h => Or.inr h⟩ hN ⟨hP, zA_self hD0, va_S.rf⟩ (lv_entry as hlen) ?_
  intro H locs cells slots pc ls v wf u M h1 h2 h3 h4 h5 hdg
  subst h1; subst h2
  obtain ⟨hP, hD, hS⟩ := M
  refine W.widen h4 h5 ?_
  exact W.zret (v := v) B.exec B.bytes B.returns h3 (fun t ht hW => ⟨⟨v, u, rfl, rfl, by rw [ht]; exact hP, va_K.moved hW.alike hK, hD⟩, hS.F ht⟩) hS.2.2 hdg B.notSynchronized
section ZOWN
variable {p : Program} {l : Launch} {e : Env} {R : Room} {s : State} {m : MethodId} {args : Array Value} {below : List Frame} {meth : Method} {c : Code} {H : Heap} {locs : List Loc} {cells slots : Nat} {Q : State → Prop}
variable {cc : ByteArray} {nL : Nat} {own C : String} {Ts : List Cond} {D : va_G} {T : Nat → ClassId} {A : Nat → Prop} {ws : va_W} {pc : Nat} {ls : Array Slot} {rest : List Value}
variable {y : MethodName} {bytes : ByteArray} {maxL index n mc ms b : Nat} {ret : Option FieldType} {wsy : List Cond} {rm : Room} {As : List Value} {hh : List (Nat × Nat × Nat × Nat)} {rv : Int32} {P : (Nat → Prop) → State → Heap → Prop}
theorem z_freeW (hD : va_D A ws) (hS : va_S A s.heap H locs) (hA : ∀ q : Nat, s.heap.size ≤ q → A q) : ∀ q, zA (ws.map Prod.fst) H.size q → A q := by
  intro q h
  rcases h with h | h
  · obtain ⟨x, hx, rfl⟩ := List.mem_map.mp h
    obtain ⟨j, hj⟩ := List.getElem?_of_mem hx
    exact hD.2 j x hj
  · exact hA q (Nat.le_trans hS.1 h)
/-- a static call with a table of its own, over the whole world -/
theorem z_callW {S : Type} {wG : S → va_W} (hk : zHp P) (hPs : P A s s.heap) (Z : zC p s m args c cc nL own Ts D T A) (M : zM D A s.heap ws H locs) (hM : ZIH l y wsy rm P D T ws wG As rv mc ms) (cw : vx_CSW R s args own index y bytes maxL ret hh wsy rm mc ms n)
    (hn : As.length = n) (hls : ls.size = nL) (hW : (rest.map fun v => v.category).sum ≤ 8) (hdg : decode cc pc = .ok (.invokestatic index, 3)) (hroom : cells + mc ≤ R.cells ∧ slots + ms ≤ R.slots) {st : List Value} (hst : st = As.reverse ++ rest)
    (kk : ∀ (u : S) (H1 : Heap) (locs1 : List Loc), zM D A s.heap (wG u) H1 locs1 → W p l e R s m args below meth c H1 locs1 (cells + mc) (slots + ms) Q (F0 m (pc + 3) ls (.int rv :: rest))) :
    W p l e R s m args below meth c H locs cells slots Q (F0 m pc ls st) := by
  subst hst
  obtain ⟨S9, hK, hA⟩ := Z
  obtain ⟨hP, hD, hS⟩ := M
  have hF := z_freeW hD hS hA
  have hDc : va_D (fun _ => True) ws := hD.weaken (fun _ _ _ _ => trivial)
  have hPH : P (zA (ws.map Prod.fst) H.size) s H := hk.2.2 A _ s H hF (hk.2.1 A s s.heap H hS.2.1 hPs)
  refine va_calli (vx_runSW (As := As) (rest := rest) S9 (hM H.size) cw ⟨z_blindH hk, fun U hU hW => ⟨rfl, ⟨by rw [hU], by rw [hU]; exact hP, va_K.moved hW.alike hK, hDc⟩, by rw [hU]; exact hk.1 _ s U H (Or.inr hW) hPH⟩⟩ rfl hn hls rfl (lv_room hW) hdg hroom) hS (fun q _ h => hF q h) hF (fun r u t H1 locs1 ht hvm hw hB hz1 hk1 hS1 => ?_)
  obtain ⟨hP1, hK1, hD1⟩ := hB
  rw [ht] at hP1
  have hw : r = rv := hw
  subst hw
  exact kk u H1 locs1 ⟨hP1, hD1.weaken (fun _ q _ h => hF q.1 h), hS1⟩
/-- a static call without a table, over the whole world -/
theorem z_callC {S : Type} {wG : S → va_W} (hk : zHp P) (hPs : P A s s.heap) (Z : zC p s m args c cc nL own Ts D T A) (M : zM D A s.heap ws H locs) (hM : ZIH l y wsy rm P D T ws wG As rv mc ms) (cw : CallB R s args own index y bytes maxL ret wsy rm mc ms n ∧ (Cond.static y).before args s = true)
    (hn : As.length = n) (hls : ls.size = nL) (hW : (rest.map fun v => v.category).sum ≤ 8) (hdg : decode cc pc = .ok (.invokestatic index, 3)) (hroom : cells + mc ≤ R.cells ∧ slots + ms ≤ R.slots) {st : List Value} (hst : st = As.reverse ++ rest)
    (kk : ∀ (u : S) (H1 : Heap) (locs1 : List Loc), zM D A s.heap (wG u) H1 locs1 → W p l e R s m args below meth c H1 locs1 (cells + mc) (slots + ms) Q (F0 m (pc + 3) ls (.int rv :: rest))) :
    W p l e R s m args below meth c H locs cells slots Q (F0 m pc ls st) := by
  subst hst
  obtain ⟨S9, hK, hA⟩ := Z
  obtain ⟨hP, hD, hS⟩ := M
  have hF := z_freeW hD hS hA
  have hDc : va_D (fun _ => True) ws := hD.weaken (fun _ _ _ _ => trivial)
  have hPH : P (zA (ws.map Prod.fst) H.size) s H := hk.2.2 A _ s H hF (hk.2.1 A s s.heap H hS.2.1 hPs)
  refine va_calli (va_runS (As := As) (rest := rest) S9 (hM H.size) cw ⟨z_blindH hk, fun U hU hW => ⟨rfl, ⟨by rw [hU], by rw [hU]; exact hP, va_K.moved hW.alike hK, hDc⟩, by rw [hU]; exact hk.1 _ s U H (Or.inr hW) hPH⟩⟩ rfl hn hls rfl (lv_room hW) hdg hroom) hS (fun q _ h => hF q h) hF (fun r u t H1 locs1 ht hvm hw hB hz1 hk1 hS1 => ?_)
  obtain ⟨hP1, hK1, hD1⟩ := hB
  rw [ht] at hP1
  have hw : r = rv := hw
  subst hw
  exact kk u H1 locs1 ⟨hP1, hD1.weaken (fun _ q _ h => hF q.1 h), hS1⟩
/-- a call of the class itself, over the whole world -/
theorem z_callO {S : Type} {wG : S → va_W} (hk : zHp P) (hPs : P A s s.heap) (Z : zC p s m args c cc nL own Ts D T A) (M : zM D A s.heap ws H locs) (hM : ZIH l y wsy rm P D T ws wG (.ref b :: As) rv mc ms) (cw : CallW R s args own C index y bytes maxL ret wsy rm mc ms n)
    (hrecv : ∃ cell : Cell, H[b]? = some cell ∧ cell.vm.isStatics = false ∧ s.vm.findClass C = some cell.cls) (hn : As.length = n) (hls : ls.size = nL) (hW : (rest.map fun v => v.category).sum ≤ 8) (hdg : decode cc pc = .ok (.invokevirtual index, 3)) (hroom : cells + mc ≤ R.cells ∧ slots + ms ≤ R.slots) {st : List Value} (hst : st = As.reverse ++ .ref b :: rest)
    (kk : ∀ (u : S) (H1 : Heap) (locs1 : List Loc), zM D A s.heap (wG u) H1 locs1 → W p l e R s m args below meth c H1 locs1 (cells + mc) (slots + ms) Q (F0 m (pc + 3) ls (.int rv :: rest))) :
    W p l e R s m args below meth c H locs cells slots Q (F0 m pc ls st) := by
  subst hst
  obtain ⟨S9, hK, hA⟩ := Z
  obtain ⟨hP, hD, hS⟩ := M
  have hF := z_freeW hD hS hA
  have hDc : va_D (fun _ => True) ws := hD.weaken (fun _ _ _ _ => trivial)
  have hPH : P (zA (ws.map Prod.fst) H.size) s H := hk.2.2 A _ s H hF (hk.2.1 A s s.heap H hS.2.1 hPs)
  refine va_calli (va_runV (As := As) (rest := rest) S9 (hM H.size) cw ⟨z_blindH hk, hrecv, fun U hU hW => ⟨rfl, ⟨by rw [hU], by rw [hU]; exact hP, va_K.moved hW.alike hK, hDc⟩, by rw [hU]; exact hk.1 _ s U H (Or.inr hW) hPH⟩⟩ rfl hn hls rfl (lv_room hW) hdg hroom) hS (fun q _ h => hF q h) hF (fun r u t H1 locs1 ht hvm hw hB hz1 hk1 hS1 => ?_)
  obtain ⟨hP1, hK1, hD1⟩ := hB
  rw [ht] at hP1
  have hw : r = rv := hw
  subst hw
  exact kk u H1 locs1 ⟨hP1, hD1.weaken (fun _ q _ h => hF q.1 h), hS1⟩
end ZOWN
