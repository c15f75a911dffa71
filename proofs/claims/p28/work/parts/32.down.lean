/-! ===== words that are handed down: contracts under P, cells that are made (S) ===== -/
def zKp (P : State → Prop) : Prop := (∀ u U : State, u.vm = U.vm → P u → P U) ∧ ∀ s U : State, s.WarmedH U.vm → P s → P U
def zPreP (P : State → Prop) (D : va_G) (T : Nat → ClassId) (w : va_W) (sz : Nat) : State → Prop := fun U => zPre D T w sz U ∧ P U
def ZIP (l : Launch) (y : MethodName) (ws : List Cond) (rm : Room) (P : State → Prop) (D : va_G) (T : Nat → ClassId) {S : Type} (w : va_W) (w' : S → va_W) (as : List Value) (rv : Int32) (mc ms : Nat) : Prop := ∀ sz : Nat, Met l y ws rm (va_Pc as (zPreP P D T w sz)) (zQX D T w w' rv sz) mc ms (zA (w.map Prod.fst) sz)
def ZVP (l : Launch) (y : MethodName) (ws : List Cond) (rm : Room) (P : State → Prop) (D : va_G) (T : Nat → ClassId) {S : Type} (w : va_W) (w' : S → va_W) (as : List Value) (mc ms : Nat) : Prop := ∀ sz : Nat, Met l y ws rm (va_Pc as (zPreP P D T w sz)) (zQG D T w w' sz) mc ms (zA (w.map Prod.fst) sz)
theorem z_blindP {P : State → Prop} (hk : zKp P) {as : List Value} {D : va_G} {T : Nat → ClassId} {w : va_W} {sz : Nat} : FrameBlind (va_Pc as (zPreP P D T w sz)) := fun a U g mk q => by
  obtain ⟨q0, ⟨q1, qP, qK, qD⟩, qN⟩ := q
  exact ⟨q0, ⟨q1, qP, va_K.moved (u := U) (U := U.calling g mk a) (Vm.Alike.refl U.vm) qK, qD⟩, hk.1 U (U.calling g mk a) rfl qN⟩
theorem z_inVP {l : Launch} {y : MethodName} {ws ws' : List Cond} {rm : Room} {P : State → Prop} {D : va_G} {T : Nat → ClassId} {S : Type} {w : va_W} {w' : S → va_W} {as : List Value} {mc ms : Nat} {cc : ByteArray} {maxL : Nat}
    (hy : plainName y.cls = true) (hw : ws = Cond.code y cc maxL none :: ws') (hlen : (lg_sl as).length ≤ maxL)
    (body : ∀ (p : Program) (e : Env) (s : State) (m : MethodId) (args : Array Value) (below : List Frame) (meth : Method) (c : Code) (ls : Array Slot) (A : Nat → Prop) (Q : State → Prop), zC p s m args c cc maxL y.cls ws D T A → P s → meth.name = y.name → zM D A s.heap w s.heap [] → lv_has ls maxL (lv_args 0 as) →
      (∀ (H : Heap) (locs : List Loc) (cells slots pc : Nat) (ls : Array Slot) (wf : va_W) (u : S), zM D A s.heap wf H locs → wf = w' u → cells ≤ mc → slots ≤ ms → decode cc pc = .ok (.return_, 1) → W p l e rm s m args below meth c H locs cells slots Q (F0 m pc ls [])) →
      W p l e rm s m args below meth c s.heap [] 0 0 Q (F0 m 0 ls [])) : ZVP l y ws rm P D T w w' as mc ms := by
  intro sz
  refine Met.ofW (cc := cc) (maxL := maxL) (ret := none) hy hw ?_
  intro p e s m args below meth c s₁ B hml hv
  obtain ⟨rfl, ⟨hsz, hP, hK, hD0⟩, hN⟩ := hv
  subst hsz
  rw [lg_entry_eq]
  refine body p e s m _ below meth c _ _ _ ⟨⟨B.exec, B.bytes, hml, findClass_of_methodNamed B.named, atoms_spec (ws := ws) B.pre⟩, hK, fun q h => Or.inr h⟩ hN (name_of_methodNamed B.named B.method).1 ⟨hP, zA_self hD0, va_S.rf⟩ (lv_entry as hlen) ?_
  intro H locs cells slots pc ls wf u M h1 h4 h5 hdg
  subst h1
  obtain ⟨hP, hD, hS⟩ := M
  refine W.widen h4 h5 ?_
  exact W.vret B.exec B.bytes B.returns (fun t ht hW => ⟨⟨u, rfl, trivial, by rw [ht]; exact hP, va_K.moved hW.alike hK, hD⟩, hS.F ht⟩) hS.2.2 hdg B.notSynchronized
theorem z_inIP {l : Launch} {y : MethodName} {ws ws' : List Cond} {rm : Room} {P : State → Prop} {D : va_G} {T : Nat → ClassId} {S : Type} {w : va_W} {w' : S → va_W} {as : List Value} {rv : Int32} {mc ms : Nat} {cc : ByteArray} {maxL : Nat} {rt : FieldType}
    (hy : plainName y.cls = true) (hw : ws = Cond.code y cc maxL (some rt) :: ws') (hlen : (lg_sl as).length ≤ maxL)
    (body : ∀ (p : Program) (e : Env) (s : State) (m : MethodId) (args : Array Value) (below : List Frame) (meth : Method) (c : Code) (ls : Array Slot) (A : Nat → Prop) (Q : State → Prop), zC p s m args c cc maxL y.cls ws D T A → P s → meth.name = y.name → zM D A s.heap w s.heap [] → lv_has ls maxL (lv_args 0 as) →
      (∀ (H : Heap) (locs : List Loc) (cells slots pc : Nat) (ls : Array Slot) (v : Int32) (wf : va_W) (u : S), zM D A s.heap wf H locs → wf = w' u → v = rv → narrow rt (.int v) = .int v → cells ≤ mc → slots ≤ ms → decode cc pc = .ok (.ireturn, 1) → W p l e rm s m args below meth c H locs cells slots Q (F0 m pc ls [.int v])) →
      W p l e rm s m args below meth c s.heap [] 0 0 Q (F0 m 0 ls [])) : ZIP l y ws rm P D T w w' as rv mc ms := by
  intro sz
  refine Met.ofW (cc := cc) (maxL := maxL) (ret := some rt) hy hw ?_
  intro p e s m args below meth c s₁ B hml hv
  obtain ⟨rfl, ⟨hsz, hP, hK, hD0⟩, hN⟩ := hv
  subst hsz
  rw [lg_entry_eq]
  refine body p e s m _ below meth c _ _ _ ⟨⟨B.exec, B.bytes, hml, findClass_of_methodNamed B.named, atoms_spec (ws := ws) B.pre⟩, hK, fun q h => Or.inr h⟩ hN (name_of_methodNamed B.named B.method).1 ⟨hP, zA_self hD0, va_S.rf⟩ (lv_entry as hlen) ?_
  intro H locs cells slots pc ls v wf u M h1 h2 h3 h4 h5 hdg
  subst h1; subst h2
  obtain ⟨hP, hD, hS⟩ := M
  refine W.widen h4 h5 ?_
  exact W.zret (v := v) B.exec B.bytes B.returns h3 (fun t ht hW => ⟨⟨v, u, rfl, rfl, by rw [ht]; exact hP, va_K.moved hW.alike hK, hD⟩, hS.F ht⟩) hS.2.2 hdg B.notSynchronized
section ZDOWN
variable {p : Program} {l : Launch} {e : Env} {R : Room} {s : State} {m : MethodId} {args : Array Value} {below : List Frame} {meth : Method} {c : Code} {H : Heap} {locs : List Loc} {cells slots : Nat} {Q : State → Prop}
variable {cc : ByteArray} {nL : Nat} {own C : String} {Ts : List Cond} {D : va_G} {T : Nat → ClassId} {A : Nat → Prop} {ws : va_W} {pc : Nat} {ls : Array Slot} {rest : List Value}
variable {y : MethodName} {bytes : ByteArray} {maxL index n mc ms b : Nat} {ret : Option FieldType} {wsy : List Cond} {rm : Room} {wc : va_W} {As : List Value} {P : State → Prop} {rv : Int32}
theorem z_callVvP {S : Type} {wG : S → va_W} (hk : zKp P) (hPs : P s) (Z : zC p s m args c cc nL own Ts D T A) (M : zM D A s.heap ws H locs) (hM : ZVP l y wsy rm P D T wc wG (.ref b :: As) mc ms) (cw : CallW R s args own C index y bytes maxL ret wsy rm mc ms n)
    (is : List Nat) (hC : is.map (fun i => ws[i]?) = wc.map some) (hnd : va_nd is = true) (hf : ∀ (u : S) (j : Nat), j < wc.length → ((wG u).map Prod.fst)[j]? = (wc.map Prod.fst)[j]?) (hlen : ∀ u : S, wc.length ≤ (wG u).length)
    (hrecv : ∃ cell : Cell, H[b]? = some cell ∧ cell.vm.isStatics = false ∧ s.vm.findClass C = some cell.cls) (hn : As.length = n) (hls : ls.size = nL) (hW : (rest.map fun v => v.category).sum ≤ 8) (hdg : decode cc pc = .ok (.invokevirtual index, 3)) (hroom : cells + mc ≤ R.cells ∧ slots + ms ≤ R.slots) {st : List Value} (hst : st = As.reverse ++ .ref b :: rest)
    (kk : ∀ (u : S) (H1 : Heap) (locs1 : List Loc), zM D A s.heap (z_put ws is (wG u)) H1 locs1 → W p l e R s m args below meth c H1 locs1 (cells + mc) (slots + ms) Q (F0 m (pc + 3) ls rest)) :
    W p l e R s m args below meth c H locs cells slots Q (F0 m pc ls st) := by
  subst hst
  obtain ⟨S9, hK, hA⟩ := Z
  obtain ⟨hP, hD, hS⟩ := M
  have hF := z_free hD hS hA is hC
  have hPc : va_P D vwCl wc H := fun k q hq => by
    obtain ⟨i, -, h2⟩ := z_in hC hq
    exact hP i q h2
  have hDc : va_D (fun _ => True) wc := ⟨fun i j x y hx hy hxy => by
    obtain ⟨a, h1, h2⟩ := z_in hC hx
    obtain ⟨b, g1, g2⟩ := z_in hC hy
    have e := hD.1 a b x y h2 g2 hxy
    subst e
    exact va_nd_inj is hnd i j a h1 g1, fun _ _ _ => trivial⟩
  refine va_callv (va_runV (As := As) (rest := rest) S9 (hM H.size) cw ⟨z_blindP hk, hrecv, fun U hU hW => ⟨rfl, ⟨by rw [hU], by rw [hU]; exact hPc, va_K.moved hW.alike hK, hDc⟩, hk.2 _ _ hW hPs⟩⟩ rfl hn hls rfl (lv_room hW) hdg hroom) hS (fun q _ h => hF q h) hF (fun u t H1 locs1 ht hvm hw hB hz1 hk1 hS1 => ?_)
  obtain ⟨hP1, hK1, hD1⟩ := hB
  rw [ht] at hP1
  obtain ⟨hP2, hD2⟩ := z_join hP hD is hC hnd hk1 hF hP1 hD1 (hf u) (hlen u)
  exact kk u H1 locs1 ⟨hP2, hD2, hS1⟩
theorem z_callViP {S : Type} {wG : S → va_W} (hk : zKp P) (hPs : P s) (Z : zC p s m args c cc nL own Ts D T A) (M : zM D A s.heap ws H locs) (hM : ZIP l y wsy rm P D T wc wG (.ref b :: As) rv mc ms) (cw : CallW R s args own C index y bytes maxL ret wsy rm mc ms n)
    (is : List Nat) (hC : is.map (fun i => ws[i]?) = wc.map some) (hnd : va_nd is = true) (hf : ∀ (u : S) (j : Nat), j < wc.length → ((wG u).map Prod.fst)[j]? = (wc.map Prod.fst)[j]?) (hlen : ∀ u : S, wc.length ≤ (wG u).length)
    (hrecv : ∃ cell : Cell, H[b]? = some cell ∧ cell.vm.isStatics = false ∧ s.vm.findClass C = some cell.cls) (hn : As.length = n) (hls : ls.size = nL) (hW : (rest.map fun v => v.category).sum ≤ 8) (hdg : decode cc pc = .ok (.invokevirtual index, 3)) (hroom : cells + mc ≤ R.cells ∧ slots + ms ≤ R.slots) {st : List Value} (hst : st = As.reverse ++ .ref b :: rest)
    (kk : ∀ (u : S) (H1 : Heap) (locs1 : List Loc), zM D A s.heap (z_put ws is (wG u)) H1 locs1 → W p l e R s m args below meth c H1 locs1 (cells + mc) (slots + ms) Q (F0 m (pc + 3) ls (.int rv :: rest))) :
    W p l e R s m args below meth c H locs cells slots Q (F0 m pc ls st) := by
  subst hst
  obtain ⟨S9, hK, hA⟩ := Z
  obtain ⟨hP, hD, hS⟩ := M
  have hF := z_free hD hS hA is hC
  have hPc : va_P D vwCl wc H := fun k q hq => by
    obtain ⟨i, -, h2⟩ := z_in hC hq
    exact hP i q h2
  have hDc : va_D (fun _ => True) wc := ⟨fun i j x y hx hy hxy => by
    obtain ⟨a, h1, h2⟩ := z_in hC hx
    obtain ⟨b, g1, g2⟩ := z_in hC hy
    have e := hD.1 a b x y h2 g2 hxy
    subst e
    exact va_nd_inj is hnd i j a h1 g1, fun _ _ _ => trivial⟩
  refine va_calli (va_runV (As := As) (rest := rest) S9 (hM H.size) cw ⟨z_blindP hk, hrecv, fun U hU hW => ⟨rfl, ⟨by rw [hU], by rw [hU]; exact hPc, va_K.moved hW.alike hK, hDc⟩, hk.2 _ _ hW hPs⟩⟩ rfl hn hls rfl (lv_room hW) hdg hroom) hS (fun q _ h => hF q h) hF (fun r u t H1 locs1 ht hvm hw hB hz1 hk1 hS1 => ?_)
  obtain ⟨hP1, hK1, hD1⟩ := hB
  rw [ht] at hP1
  obtain ⟨hP2, hD2⟩ := z_join hP hD is hC hnd hk1 hF hP1 hD1 (hf u) (hlen u)
  have hw : r = rv := hw
  subst hw
  exact kk u H1 locs1 ⟨hP2, hD2, hS1⟩
end ZDOWN
/-- an element of this class may stand among objects -/
def zCa (C : String) (U : State) : Prop := va_Nw (.castable C "java/lang/Object") U
theorem zCa_k (C : String) : zKp (zCa C) := ⟨fun _ _ h hN => va_Nw.same rfl h hN, fun _ _ hW hN => va_Nw.warmC hW hN⟩
/-- a list, its array, an element -/
abbrev laW (L r n x ci : Nat) (T : Nat → ClassId) (k c : Int32) (f : Nat → Option Nat) (vs : List Value) : va_W := [(L, .inr (0, [.int k, .ref r, .int c])), (r, .inl (T 3, n, .inr (.inr (.inr (.inr f))))), (x, .inr (ci, vs))]
set_option maxHeartbeats 4000000 in
theorem cl_add3 (l : Launch) (D : va_G) (T : Nat → ClassId) (L r n x ci g : Nat) (k : Int32) (f : Nat → Option Nat) (vs : List Value) (q9 : vw_C) (hc : vwCl[ci]? = some q9) (hg : g < n) (hn : n < 2 ^ 31) : ZVP l yJx4a65c_add_72be8 wsJx4a65c_add_72be8 (zrm 0 0) (zCa q9.1) D T (laW L r n x ci T k (nI g) f vs) (fun _ : Unit => laW L r n x ci T k (nI (g + 1)) (va_up f g (some x)) vs) [.ref L, .ref x, .ref r, .int (nI g)] 0 0 := by
  refine z_inVP (cc := cJx4a65c_add_72be8) (maxL := 4) (by decide +kernel) rfl (Nat.le_of_ble_eq_true rfl) ?_
  intro p e s m args below meth c9 ls9 A Q Z hCa hnm M hl9 hret
  have Z : zC p s m args c9 cJx4a65c_add_72be8 4 RJx4a65c wsJx4a65c_add_72be8 D T A := Z
  have hx := Z.1.1
  have hb := Z.1.2.1
  have hts := Z.1.2.2.2.2
  have hinL : ∀ w ∈ wsJx4a65c0, w ∈ wsJx4a65c_add_72be8 := by decide +kernel
  have L48 := hts (.fieldLink RJx4a65c 48 "java/util/ArrayList" "size" "I") (by decide +kernel)
  have hl9 : lv_has ls9 4 [(0, .ref L), (1, .ref x), (2, .ref r), (3, .int (nI g))] := hl9
  refine lv_iload_n hx hb dJx4a65c_add_72be8_0 rfl (lv_at hl9 3 rfl) ?_
  refine lv_aload_n hx hb dJx4a65c_add_72be8_1 rfl (lv_at hl9 2 rfl) ?_
  refine va_alen (x := (n, .inr (.inr (.inr (.inr f))))) Z.1.1 Z.1.2.1 Z.2.1 M.1 1 3 rfl rfl (v := nI n) rfl dJx4a65c_add_72be8_2 ?_
  refine zn_icmp_ne (a := g) (b := n) (tgt := 11) (by omega) hn hx hb dJx4a65c_add_72be8_3 (by decide) (fun _ => ?_) (fun h => absurd h (by omega))
  refine lv_aload_n hx hb dJx4a65c_add_72be8_11 rfl (lv_at hl9 2 rfl) ?_
  refine lv_iload_n hx hb dJx4a65c_add_72be8_12 rfl (lv_at hl9 3 rfl) ?_
  refine lv_aload_n hx hb dJx4a65c_add_72be8_13 rfl (lv_at hl9 1 rfl) ?_
  refine va_astqO Z.1.1 Z.1.2.1 Z.2.1 M.1 M.2.1 M.2.2 1 3 2 ci (E := "java/lang/Object") (cA := T 3) (n := n) (f := f) (vs := vs) rfl rfl hCa rfl hc (vp_in_nI hg hn) dJx4a65c_add_72be8_14 (fun H1 locs1 hP1 hD1 hS1 => ?_)
  rw [nI_clamp (by omega)] at hP1 hD1
  have M : zM D A s.heap (laW L r n x ci T k (nI g) (va_up f g (some x)) vs) H1 locs1 := ⟨hP1, hD1, hS1⟩
  refine lv_aload_n hx hb dJx4a65c_add_72be8_15 rfl (lv_at hl9 0 rfl) ?_
  refine lv_iload_n hx hb dJx4a65c_add_72be8_16 rfl (lv_at hl9 3 rfl) ?_
  refine lv_iconst (v := 1) hx hb dJx4a65c_add_72be8_17 (by decide) ?_
  refine lv_iadd hx hb dJx4a65c_add_72be8_18 ?_
  refine zn_top (y := nI (g + 1)) (nI_add g 1) ?_
  refine z_putf Z M hinL tyJx4a65c tyJx4a65c_ok nmJx4a65c 0 rfl rfl 2 (by decide) L48 rfl rfl (ty := .int) rfl rfl rfl (Nat.le_of_ble_eq_true rfl) (ws' := laW L r n x ci T k (nI (g + 1)) (va_up f g (some x)) vs) rfl dJx4a65c_add_72be8_19 (fun H2 locs2 M => ?_)
  exact hret _ _ _ _ _ ls9 _ () M rfl (Nat.le_refl _) (Nat.le_refl _) dJx4a65c_add_72be8_22
