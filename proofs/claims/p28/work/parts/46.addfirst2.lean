/-! ===== the first element of a list: the public one ===== -/
def ZIH (l : Launch) (y : MethodName) (ws : List Cond) (rm : Room) (P : (Nat → Prop) → State → Heap → Prop) (D : va_G) (T : Nat → ClassId) {S : Type} (w : va_W) (w' : S → va_W) (as : List Value) (rv : Int32) (mc ms : Nat) : Prop := ∀ sz : Nat, Met l y ws rm (va_Pc as (zPreH P D T w sz)) (zQX D T w w' rv sz) mc ms (zA (w.map Prod.fst) sz)
theorem z_inIH {l : Launch} {y : MethodName} {ws ws' : List Cond} {rm : Room} {P : (Nat → Prop) → State → Heap → Prop} {D : va_G} {T : Nat → ClassId} {S : Type} {w : va_W} {w' : S → va_W} {as : List Value} {rv : Int32} {mc ms : Nat} {cc : ByteArray} {maxL : Nat} {rt : FieldType}
    (hy : plainName y.cls = true) (hw : ws = Cond.code y cc maxL (some rt) :: ws') (hlen : (lg_sl as).length ≤ maxL)
    (body : ∀ (p : Program) (e : Env) (s : State) (m : MethodId) (args : Array Value) (below : List Frame) (meth : Method) (c : Code) (ls : Array Slot) (A : Nat → Prop) (Q : State → Prop), zC p s m args c cc maxL y.cls ws D T A → P A s s.heap → meth.name = y.name → zM D A s.heap w s.heap [] → lv_has ls maxL (lv_args 0 as) →
      (∀ (H : Heap) (locs : List Loc) (cells slots pc : Nat) (ls : Array Slot) (v : Int32) (wf : va_W) (u : S), zM D A s.heap wf H locs → wf = w' u → v = rv → narrow rt (.int v) = .int v → cells ≤ mc → slots ≤ ms → decode cc pc = .ok (.ireturn, 1) → W p l e rm s m args below meth c H locs cells slots Q (F0 m pc ls [.int v])) →
      W p l e rm s m args below meth c s.heap [] 0 0 Q (F0 m 0 ls [])) : ZIH l y ws rm P D T w w' as rv mc ms := by
  intro sz
  refine Met.ofW (cc := cc) (maxL := maxL) (ret := some rt) hy hw ?_
  intro p e s m args below meth c s₁ B hml hv
  obtain ⟨rfl, ⟨hsz, hP, hK, hD0⟩, hN⟩ := hv
  subst hsz
  rw [lg_entry_eq]
  refine body p e s m _ below meth c _ _ _ ⟨⟨B.exec, B.bytes, hml, findClass_of_methodNamed B.named, atoms_spec (ws := ws) B.pre⟩, hK, fun q h => Or.inr h⟩ hN (name_of_methodNamed B.named B.method).1 ⟨hP, zA_self hD0, va_S.rf⟩ (lv_entry as hlen) ?_
  intro H locs cells slots pc ls v wf u M h1 h2 h3 h4 h5 hdg
  subst h1; subst h2
  obtain ⟨hP, hD, hS⟩ := M
  refine W.widen h4 h5 ?_
  exact W.zret (v := v) B.exec B.bytes B.returns h3 (fun t ht hW => ⟨⟨v, u, rfl, rfl, by rw [ht]; exact hP, va_K.moved hW.alike hK, hD⟩, hS.F ht⟩) hS.2.2 hdg B.notSynchronized
section ZVVH
variable {p : Program} {l : Launch} {e : Env} {R : Room} {s : State} {m : MethodId} {args : Array Value} {below : List Frame} {meth : Method} {c : Code} {H : Heap} {locs : List Loc} {cells slots : Nat} {Q : State → Prop}
variable {cc : ByteArray} {nL : Nat} {own C : String} {Ts : List Cond} {D : va_G} {T : Nat → ClassId} {A : Nat → Prop} {ws : va_W} {pc : Nat} {ls : Array Slot} {rest : List Value}
variable {y : MethodName} {bytes : ByteArray} {maxL index n mc ms b : Nat} {ret : Option FieldType} {wsy : List Cond} {rm : Room} {wc : va_W} {As : List Value} {rv : Int32} {P : (Nat → Prop) → State → Heap → Prop}
theorem z_callVvH {S : Type} {wG : S → va_W} (hk : zHp P) (hPs : P A s s.heap) (Z : zC p s m args c cc nL own Ts D T A) (M : zM D A s.heap ws H locs) (hM : ZGH l y wsy rm P D T wc wG (.ref b :: As) mc ms) (cw : CallW R s args own C index y bytes maxL ret wsy rm mc ms n)
    (is : List Nat) (hC : is.map (fun i => ws[i]?) = wc.map some) (hnd : va_nd is = true) (hf : ∀ (u : S) (j : Nat), j < wc.length → ((wG u).map Prod.fst)[j]? = (wc.map Prod.fst)[j]?) (hlen : ∀ u : S, wc.length ≤ (wG u).length)
    (hrecv : ∃ cell : Cell, H[b]? = some cell ∧ cell.vm.isStatics = false ∧ s.vm.findClass C = some cell.cls) (hn : As.length = n) (hls : ls.size = nL) (hW : (rest.map fun v => v.category).sum ≤ 8) (hdg : decode cc pc = .ok (.invokevirtual index, 3)) (hroom : cells + mc ≤ R.cells ∧ slots + ms ≤ R.slots) {st : List Value} (hst : st = As.reverse ++ .ref b :: rest)
    (kk : ∀ (u : S) (H1 : Heap) (locs1 : List Loc), zM D A s.heap (z_put ws is (wG u)) H1 locs1 → W p l e R s m args below meth c H1 locs1 (cells + mc) (slots + ms) Q (F0 m (pc + 3) ls rest)) :
    W p l e R s m args below meth c H locs cells slots Q (F0 m pc ls st) := by
  subst hst
  obtain ⟨S9, hK, hA⟩ := Z
  obtain ⟨hP, hD, hS⟩ := M
  have hF := z_free hD hS hA is hC
  have hPc : va_P D vwCl wc H := fun k q hq => by
    obtain ⟨i, -, h2⟩ := z_in hC hq
    exact hP i q h2
  have hDc : va_D (fun _ => True) wc := ⟨fun i j x y hx hy hxy => by
    obtain ⟨a, h1, h2⟩ := z_in hC hx
    obtain ⟨b, g1, g2⟩ := z_in hC hy
    have e := hD.1 a b x y h2 g2 hxy
    subst e
    exact va_nd_inj is hnd i j a h1 g1, fun _ _ _ => trivial⟩
  have hPH : P (zA (wc.map Prod.fst) H.size) s H := hk.2.2 A _ s H hF (hk.2.1 A s s.heap H hS.2.1 hPs)
  refine va_callv (va_runV (As := As) (rest := rest) S9 (hM H.size) cw ⟨z_blindH hk, hrecv, fun U hU hW => ⟨rfl, ⟨by rw [hU], by rw [hU]; exact hPc, va_K.moved hW.alike hK, hDc⟩, by rw [hU]; exact hk.1 _ s U H (Or.inr hW) hPH⟩⟩ rfl hn hls rfl (lv_room hW) hdg hroom) hS (fun q _ h => hF q h) hF (fun u t H1 locs1 ht hvm hw hB hz1 hk1 hS1 => ?_)
  obtain ⟨hP1, hK1, hD1⟩ := hB
  rw [ht] at hP1
  obtain ⟨hP2, hD2⟩ := z_join hP hD is hC hnd hk1 hF hP1 hD1 (hf u) (hlen u)
  exact kk u H1 locs1 ⟨hP2, hD2, hS1⟩
theorem z_callViH {S : Type} {wG : S → va_W} (hk : zHp P) (hPs : P A s s.heap) (Z : zC p s m args c cc nL own Ts D T A) (M : zM D A s.heap ws H locs) (hM : ZIH l y wsy rm P D T wc wG (.ref b :: As) rv mc ms) (cw : CallW R s args own C index y bytes maxL ret wsy rm mc ms n)
    (is : List Nat) (hC : is.map (fun i => ws[i]?) = wc.map some) (hnd : va_nd is = true) (hf : ∀ (u : S) (j : Nat), j < wc.length → ((wG u).map Prod.fst)[j]? = (wc.map Prod.fst)[j]?) (hlen : ∀ u : S, wc.length ≤ (wG u).length)
    (hrecv : ∃ cell : Cell, H[b]? = some cell ∧ cell.vm.isStatics = false ∧ s.vm.findClass C = some cell.cls) (hn : As.length = n) (hls : ls.size = nL) (hW : (rest.map fun v => v.category).sum ≤ 8) (hdg : decode cc pc = .ok (.invokevirtual index, 3)) (hroom : cells + mc ≤ R.cells ∧ slots + ms ≤ R.slots) {st : List Value} (hst : st = As.reverse ++ .ref b :: rest)
    (kk : ∀ (u : S) (H1 : Heap) (locs1 : List Loc), zM D A s.heap (z_put ws is (wG u)) H1 locs1 → W p l e R s m args below meth c H1 locs1 (cells + mc) (slots + ms) Q (F0 m (pc + 3) ls (.int rv :: rest))) :
    W p l e R s m args below meth c H locs cells slots Q (F0 m pc ls st) := by
  subst hst
  obtain ⟨S9, hK, hA⟩ := Z
  obtain ⟨hP, hD, hS⟩ := M
  have hF := z_free hD hS hA is hC
  have hPc : va_P D vwCl wc H := fun k q hq => by
    obtain ⟨i, -, h2⟩ := z_in hC hq
    exact hP i q h2
  have hDc : va_D (fun _ => True) wc := ⟨fun i j x y hx hy hxy => by
    obtain ⟨a, h1, h2⟩ := z_in hC hx
    obtain ⟨b, g1, g2⟩ := z_in hC hy
    have e := hD.1 a b x y h2 g2 hxy
    subst e
    exact va_nd_inj is hnd i j a h1 g1, fun _ _ _ => trivial⟩
  have hPH : P (zA (wc.map Prod.fst) H.size) s H := hk.2.2 A _ s H hF (hk.2.1 A s s.heap H hS.2.1 hPs)
  refine va_calli (va_runV (As := As) (rest := rest) S9 (hM H.size) cw ⟨z_blindH hk, hrecv, fun U hU hW => ⟨rfl, ⟨by rw [hU], by rw [hU]; exact hPc, va_K.moved hW.alike hK, hDc⟩, by rw [hU]; exact hk.1 _ s U H (Or.inr hW) hPH⟩⟩ rfl hn hls rfl (lv_room hW) hdg hroom) hS (fun q _ h => hF q h) hF (fun r u t H1 locs1 ht hvm hw hB hz1 hk1 hS1 => ?_)
  obtain ⟨hP1, hK1, hD1⟩ := hB
  rw [ht] at hP1
  obtain ⟨hP2, hD2⟩ := z_join hP hD is hC hnd hk1 hF hP1 hD1 (hf u) (hlen u)
  have hw : r = rv := hw
  subst hw
  exact kk u H1 locs1 ⟨hP2, hD2, hS1⟩
end ZVVH
theorem fe2_f {L x ci N ea : Nat} {T : Nat → ClassId} {k k2 c2 : Int32} {f : Nat → Option Nat} {vs : List Value} (u j : Nat) (hj : j < (feW L x ci k ea vs).length) : ((feW2 L x ci u N T k2 c2 f vs).map Prod.fst)[j]? = ((feW L x ci k ea vs).map Prod.fst)[j]? := by
  have hj : j < 2 := hj
  have e : j = 0 ∨ j = 1 := by omega
  rcases e with e | e <;> subst e <;> rfl
set_option maxHeartbeats 4000000 in
theorem cl_adde (l : Launch) (D : va_G) (T : Nat → ClassId) (L x ea ci : Nat) (k : Int32) (vs : List Value) (q9 : vw_C) (hc : vwCl[ci]? = some q9) :
    ZIH l yJx4a65c_add_9ea2d wsJx4a65c_add_9ea2d (zrmc 4 130 1 10) (zF q9.1 ea) D T (S := Nat) (feW L x ci k ea vs) (fun q => feW2 L x ci q 10 T (k + 1) 1 (va_up (fun _ => none) 0 (some x)) vs) [.ref L, .ref x] 1 1 10 := by
  refine z_inIH (cc := cJx4a65c_add_9ea2d) (maxL := 2) (rt := .boolean) (by decide +kernel) rfl (Nat.le_of_ble_eq_true rfl) ?_
  intro p e s m args below meth c9 ls9 A Q Z hE hnm M hl9 hret
  have Z : zC p s m args c9 cJx4a65c_add_9ea2d 2 RJx4a65c wsJx4a65c_add_9ea2d D T A := Z
  have hx := Z.1.1
  have hb := Z.1.2.1
  have hts := Z.1.2.2.2.2
  have hinL : ∀ w ∈ wsJx4a65c0, w ∈ wsJx4a65c_add_9ea2d := by decide +kernel
  have L9 := hts (.fieldLink RJx4a65c 9 "java/util/ArrayList" "elementData" "[Ljava/lang/Object;") (by decide +kernel)
  have L48 := hts (.fieldLink RJx4a65c 48 "java/util/ArrayList" "size" "I") (by decide +kernel)
  have L63 := hts (.fieldLink RJx4a65c 63 "java/util/ArrayList" "modCount" "I") (by decide +kernel)
  have S63 := hts (.sameField "java/util/ArrayList" "java/util/AbstractList" "modCount" "I") (by decide +kernel)
  have hl9 : lv_has ls9 2 [(0, .ref L), (1, .ref x)] := hl9
  refine lv_aload_n hx hb dJx4a65c_add_9ea2d_0 rfl (lv_at hl9 0 rfl) ?_
  refine lv_dup hx hb dJx4a65c_add_9ea2d_1 rfl ?_
  refine va_get hx hb hts hinL Z.1.2.2.2.1 Z.2.1 M.1 0 rfl rfl 0 (by decide) L63 (fun y9 h9 => u_same S63 y9 h9) (v := .int k) rfl dJx4a65c_add_9ea2d_2 ?_
  refine lv_iconst (v := 1) hx hb dJx4a65c_add_9ea2d_5 (by decide) ?_
  refine lv_iadd hx hb dJx4a65c_add_9ea2d_6 ?_
  refine va_put hx hb hts hinL tyJx4a65c tyJx4a65c_ok nmJx4a65c Z.1.2.2.2.1 Z.2.1 M.1 M.2.1 M.2.2 0 rfl rfl 0 (by decide) L63 (fun y9 h9 => u_same S63 y9 h9) rfl (ty := .int) (by decide +kernel) rfl rfl (Nat.le_of_ble_eq_true rfl) dJx4a65c_add_9ea2d_7 (fun H1 locs1 hP1 hD1 hS1 => ?_)
  have M : zM D A s.heap (feW L x ci (k + 1) ea vs) H1 locs1 := ⟨hP1, hD1, hS1⟩
  refine lv_aload_n hx hb dJx4a65c_add_9ea2d_10 rfl (lv_at hl9 0 rfl) ?_
  refine lv_aload_n hx hb dJx4a65c_add_9ea2d_11 rfl (lv_at hl9 1 rfl) ?_
  refine lv_aload_n hx hb dJx4a65c_add_9ea2d_12 rfl (lv_at hl9 0 rfl) ?_
  refine z_getf Z M hinL 0 rfl rfl 1 (by decide) L9 rfl (v := .ref ea) rfl dJx4a65c_add_9ea2d_13 ?_
  refine lv_aload_n hx hb dJx4a65c_add_9ea2d_16 rfl (lv_at hl9 0 rfl) ?_
  refine z_getf Z M hinL 0 rfl rfl 2 (by decide) L48 rfl (v := .int 0) rfl dJx4a65c_add_9ea2d_17 ?_
  refine z_callVvH (As := [.ref x, .ref ea, .int 0]) (rest := []) (wc := feW L x ci (k + 1) ea vs) (zF_k q9.1 ea) hE Z M (cl_add3e l D T L x ea ci (k + 1) vs q9 hc) (cwV 3 hts gJx4a65c_add_9ea2d_Jx4a65c_add_72be8 rfl rfl rfl (by decide +kernel) ⟨by decide, by decide⟩) [0, 1] rfl (by decide) fe2_f (fun _ => Nat.le_of_ble_eq_true rfl) (va_recv Z.2.1 M.1 (ci := 0) (q0 := 0) rfl rfl) rfl hl9.1 (Nat.le_of_ble_eq_true rfl) dJx4a65c_add_9ea2d_20 ⟨by decide, by decide⟩ rfl (fun q H2 locs2 M => ?_)
  refine lv_iconst (v := 1) hx hb dJx4a65c_add_9ea2d_23 (by decide) ?_
  exact hret _ _ _ _ _ ls9 _ _ q M rfl rfl rfl (by decide) (by decide) dJx4a65c_add_9ea2d_24
