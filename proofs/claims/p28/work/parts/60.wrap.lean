/-! ===== the law's helpers: calls that may throw ===== -/
def zNc (U : State) : Prop := va_Nc "java/lang/IllegalArgumentException" "java/lang/IndexOutOfBoundsException" U ∧ va_Nc "java/lang/IllegalStateException" "java/lang/IndexOutOfBoundsException" U ∧ va_Nc "java/lang/IllegalStateException" "java/lang/IllegalArgumentException" U
def zX (ea mi : Nat) (sa : Nat → Nat) (A : Nat → Prop) (U : State) (H : Heap) : Prop := zW ea mi sa A U H ∧ zNc U
theorem zX_k (ea mi : Nat) (sa : Nat → Nat) : zHp (zX ea mi sa) := zHp_and (zW_k ea mi sa) (zHp_tab (fun _ _ h q => ⟨va_Nc.moved (zAl h) q.1, va_Nc.moved (zAl h) q.2.1, va_Nc.moved (zAl h) q.2.2⟩))
theorem Met_pre {l : Launch} {y : MethodName} {ws : List Cond} {rm : Room} {Pc Pc' : Array Value → State → Prop} {Qc : Array Value → State → Outcome → State → Prop} {mc ms : Nat} {free : Addr → Prop} (h : Met l y ws rm Pc Qc mc ms free) (hp : ∀ a s, Pc' a s → Pc a s) : Met l y ws rm Pc' Qc mc ms free :=
  fun p e ha hc hk s m args below hf happ hP hx => h p e ha hc hk s m args below hf happ (hp _ _ hP) hx
theorem zI_H {l : Launch} {y : MethodName} {ws : List Cond} {rm : Room} {P : (Nat → Prop) → State → Heap → Prop} {D : va_G} {T : Nat → ClassId} {w w' : va_W} {as : List Value} {rv : Int32} {mc ms : Nat} (h : ZI l y ws rm D T w w' as rv mc ms) : ZIH l y ws rm P D T (S := Unit) w (fun _ => w') as rv mc ms := fun sz => Met_pre (h sz) (fun _ _ q => ⟨q.1, q.2.1⟩)
theorem zV_H {l : Launch} {y : MethodName} {ws : List Cond} {rm : Room} {P : (Nat → Prop) → State → Heap → Prop} {D : va_G} {T : Nat → ClassId} {w w' : va_W} {as : List Value} {mc ms : Nat} (h : ZV l y ws rm D T w w' as mc ms) : ZGH l y ws rm P D T (S := Unit) w (fun _ => w') as mc ms := fun sz => Met_pre (h sz) (fun _ _ q => ⟨q.1, q.2.1⟩)
theorem mid_put2 (x : Nat × va_E) (wc : va_W) : ∃ is : List Nat, is.map (fun i => (x :: wc)[i]?) = wc.map some ∧ va_nd is = true ∧ ∀ w1 : va_W, wc.length ≤ w1.length → z_put (x :: wc) is w1 = x :: w1 := by
  obtain ⟨is, h1, h2, h3⟩ := mid_places [x] wc []
  rw [List.append_nil] at h1 h3
  refine ⟨is, h1, h2, fun w1 hw => ?_⟩
  have e : w1 = w1.take wc.length ++ w1.drop wc.length := (List.take_append_drop _ _).symm
  have h4 := h3 (w1.take wc.length) (w1.drop wc.length) (by rw [List.length_take]; omega)
  rw [← e] at h4
  show z_put ([x] ++ wc) is w1 = _
  rw [h4]
  simp
abbrev ouW (out : Nat) (T : Nat → ClassId) (f : Nat → Int64) : Nat × va_E := (out, .inl (T 2, 1, .inr (.inl f)))
abbrev lkR (rm : Room) (n mc ms : Nat) : Room := { frames := rm.frames + 1, cells := mc, slots := ms, locals := 8 + (n + 11) + rm.locals }
theorem z_inIHW {l : Launch} {y : MethodName} {ws ws' : List Cond} {rm : Room} {P : (Nat → Prop) → State → Heap → Prop} {D : va_G} {T : Nat → ClassId} {S : Type} {w : va_W} {w' : S → va_W} {as : List Value} {rv : Int32} {mc ms : Nat} {cc : ByteArray} {maxL : Nat} {rt : FieldType} {hh : List (Nat × Nat × Nat × Nat)}
    (hy : plainName y.cls = true) (hw : ws = Cond.codeWith y cc maxL (some rt) hh :: ws') (hlen : (lg_sl as).length ≤ maxL)
    (body : ∀ (p : Program) (e : Env) (s : State) (m : MethodId) (args : Array Value) (below : List Frame) (meth : Method) (c : Code) (ls : Array Slot) (A : Nat → Prop) (Q : State → Prop), zC p s m args c cc maxL y.cls ws D T A → P A s s.heap → c.exceptionTable.toList = tableOf hh → meth.name = y.name → zM D A s.heap w s.heap [] → lv_has ls maxL (lv_args 0 as) →
      (∀ (H : Heap) (locs : List Loc) (cells slots pc : Nat) (ls : Array Slot) (v : Int32) (wf : va_W) (u : S), zM D A s.heap wf H locs → wf = w' u → v = rv → narrow rt (.int v) = .int v → cells ≤ mc → slots ≤ ms → decode cc pc = .ok (.ireturn, 1) → W p l e rm s m args below meth c H locs cells slots Q (F0 m pc ls [.int v])) →
      W p l e rm s m args below meth c s.heap [] 0 0 Q (F0 m 0 ls [])) : ZIH l y ws rm P D T w w' as rv mc ms := by
  intro sz
  refine va_MetW (cc := cc) (maxL := maxL) (ret := some rt) hy hw ?_
  intro p e s m args below meth c s₁ B hml hv
  obtain ⟨rfl, ⟨hsz, hP, hK, hD0⟩, hN⟩ := hv
  subst hsz
  rw [lg_entry_eq]
  refine body p e s m _ below meth c _ _ _ ⟨⟨B.exec, B.bytes, hml, findClass_of_methodNamed B.named, atoms_spec (ws := ws) B.pre⟩, hK, fun q h => Or.inr h⟩ hN (vx_table (x := y) B (atoms_spec (ws := ws) B.pre _ (by rw [hw]; exact List.mem_cons_self))) (name_of_methodNamed B.named B.method).1 ⟨hP, zA_self hD0, va_S.rf⟩ (lv_entry as hlen) ?_
  intro H locs cells slots pc ls v wf u M h1 h2 h3 h4 h5 hdg
  subst h1; subst h2
  obtain ⟨hP, hD, hS⟩ := M
  refine W.widen h4 h5 ?_
  exact W.zret (v := v) B.exec B.bytes B.returns h3 (fun t ht hW => ⟨⟨v, u, rfl, rfl, by rw [ht]; exact hP, va_K.moved hW.alike hK, hD⟩, hS.F ht⟩) hS.2.2 hdg B.notSynchronized
section ZCATCH
variable {p : Program} {l : Launch} {e : Env} {R : Room} {s : State} {m : MethodId} {args : Array Value} {below : List Frame} {meth : Method} {c : Code} {H : Heap} {locs : List Loc} {cells slots : Nat} {Q : State → Prop}
variable {cc : ByteArray} {nL : Nat} {own C : String} {Ts : List Cond} {D : va_G} {T : Nat → ClassId} {A : Nat → Prop} {ws w : va_W} {pc : Nat} {ls : Array Slot} {rest : List Value} {E : String}
variable {y : MethodName} {bytes : ByteArray} {maxL index n mc ms b : Nat} {ret : Option FieldType} {wsy : List Cond} {rm : Room} {wc : va_W} {As : List Value} {P : (Nat → Prop) → State → Heap → Prop} {ea mi : Nat} {sa : Nat → Nat}
theorem z_callVx (hk : zHp P) (hPs : P A s s.heap) (Z : zC p s m args c cc nL own Ts D T A) (M : zM D A s.heap ws H locs) (hM : ZB l y wsy rm P D T wc (.ref b :: As) E) (cw : CallW R s args own C index y bytes maxL ret wsy rm 1 6 n)
    (is : List Nat) (hC : is.map (fun i => ws[i]?) = wc.map some) (hnd : va_nd is = true)
    (hrecv : ∃ cell : Cell, H[b]? = some cell ∧ cell.vm.isStatics = false ∧ s.vm.findClass C = some cell.cls) (hn : As.length = n) (hls : ls.size = nL) (hW : (rest.map fun v => v.category).sum ≤ 8) (hdg : decode cc pc = .ok (.invokevirtual index, 3)) (hroom : cells + 1 ≤ R.cells ∧ slots + 6 ≤ R.slots) {st : List Value} (hst : st = As.reverse ++ .ref b :: rest)
    (kx : ∀ (H1 : Heap) (locs1 : List Loc) (q9 : Addr) (ce : Cell), zM D A s.heap ws H1 locs1 → H1[q9]? = some ce → ce.vm = .none → s.vm.findClass E = some ce.cls → vx_W p l e R s m args below meth c H1 locs1 (cells + 1) (slots + 6) Q (F0 m pc ls rest) q9) :
    W p l e R s m args below meth c H locs cells slots Q (F0 m pc ls st) := by
  subst hst
  obtain ⟨S9, hK, hA9⟩ := Z
  obtain ⟨hP, hD, hS⟩ := M
  have hF := z_free hD hS hA9 is hC
  have hPc : va_P D vwCl wc H := fun k q hq => by
    obtain ⟨i, -, h2⟩ := z_in hC hq
    exact hP i q h2
  have hDc : va_D (fun _ => True) wc := ⟨fun i j x y hx hy hxy => by
    obtain ⟨a, h1, h2⟩ := z_in hC hx
    obtain ⟨b, g1, g2⟩ := z_in hC hy
    have e := hD.1 a b x y h2 g2 hxy
    subst e
    exact va_nd_inj is hnd i j a h1 g1, fun _ _ _ => trivial⟩
  have hPH : P (zA (wc.map Prod.fst) H.size) s H := hk.2.2 A _ s H hF (hk.2.1 A s s.heap H hS.2.1 hPs)
  refine vx_calli (vx_runV (As := As) (rest := rest) S9 (hM H.size) cw ⟨z_blindH hk, hrecv, fun U hU hW => ⟨rfl, ⟨by rw [hU], by rw [hU]; exact hPc, va_K.moved hW.alike hK, hDc⟩, by rw [hU]; exact hk.1 _ s U H (Or.inr hW) hPH⟩⟩ rfl hn hls rfl (lv_room hW) hdg hroom) hS (fun q _ h => h.elim) hF (fun q _ h => hF q h) (fun E1 ce q9 u t H1 locs1 ht hvm hpx hB hz1 hk1 hS1 hcell hv hcl => ?_) (fun r u t H1 locs1 ht hvm hw _ _ _ _ => hw.elim)
  obtain ⟨hE1, hP1, hK1, hD1⟩ := hB
  subst hE1
  rw [ht] at hP1
  have hJ := z_join hP hD is hC hnd hk1 hF hP1 hD1 (fun j hj => rfl) (Nat.le_refl _)
  rw [z_put_same hC hnd] at hJ
  exact kx H1 locs1 q9 ce ⟨hJ.1, hJ.2, hS1⟩ hcell hv hcl
end ZCATCH
