/-! ===== facts on cells that are not free, handed down ===== -/
def zHp (P : (Nat → Prop) → State → Heap → Prop) : Prop := (∀ (A : Nat → Prop) (u U : State) (H : Heap), (u.vm = U.vm ∨ u.WarmedH U.vm) → P A u H → P A U H) ∧ (∀ (A : Nat → Prop) (U : State) (H H1 : Heap), (∀ a : Nat, a < H.size → ¬ A a → H1[a]? = H[a]?) → P A U H → P A U H1) ∧ ∀ (A B : Nat → Prop) (U : State) (H : Heap), (∀ q, B q → A q) → P A U H → P B U H
theorem zAl {u U : State} (h : u.vm = U.vm ∨ u.WarmedH U.vm) : u.vm.Alike U.vm := h.elim (fun e => e ▸ Vm.Alike.refl u.vm) (fun h => h.alike)
def zPreH (P : (Nat → Prop) → State → Heap → Prop) (D : va_G) (T : Nat → ClassId) (w : va_W) (sz : Nat) : State → Prop := fun U => zPre D T w sz U ∧ P (zA (w.map Prod.fst) sz) U U.heap
def ZGH (l : Launch) (y : MethodName) (ws : List Cond) (rm : Room) (P : (Nat → Prop) → State → Heap → Prop) (D : va_G) (T : Nat → ClassId) {S : Type} (w : va_W) (w' : S → va_W) (as : List Value) (mc ms : Nat) : Prop := ∀ sz : Nat, Met l y ws rm (va_Pc as (zPreH P D T w sz)) (zQG D T w w' sz) mc ms (zA (w.map Prod.fst) sz)
theorem z_blindH {P : (Nat → Prop) → State → Heap → Prop} (hk : zHp P) {as : List Value} {D : va_G} {T : Nat → ClassId} {w : va_W} {sz : Nat} : FrameBlind (va_Pc as (zPreH P D T w sz)) := fun a U g mk q => by
  obtain ⟨q0, ⟨q1, qP, qK, qD⟩, qN⟩ := q
  exact ⟨q0, ⟨q1, qP, va_K.moved (u := U) (U := U.calling g mk a) (Vm.Alike.refl U.vm) qK, qD⟩, hk.1 _ U (U.calling g mk a) _ (Or.inl rfl) qN⟩
theorem z_inGH {l : Launch} {y : MethodName} {ws ws' : List Cond} {rm : Room} {P : (Nat → Prop) → State → Heap → Prop} {D : va_G} {T : Nat → ClassId} {S : Type} {w : va_W} {w' : S → va_W} {as : List Value} {mc ms : Nat} {cc : ByteArray} {maxL : Nat}
    (hy : plainName y.cls = true) (hw : ws = Cond.code y cc maxL none :: ws') (hlen : (lg_sl as).length ≤ maxL)
    (body : ∀ (p : Program) (e : Env) (s : State) (m : MethodId) (args : Array Value) (below : List Frame) (meth : Method) (c : Code) (ls : Array Slot) (A : Nat → Prop) (Q : State → Prop), zC p s m args c cc maxL y.cls ws D T A → P A s s.heap → meth.name = y.name → zM D A s.heap w s.heap [] → lv_has ls maxL (lv_args 0 as) →
      (∀ (H : Heap) (locs : List Loc) (cells slots pc : Nat) (ls : Array Slot) (wf : va_W) (u : S), zM D A s.heap wf H locs → wf = w' u → cells ≤ mc → slots ≤ ms → decode cc pc = .ok (.return_, 1) → W p l e rm s m args below meth c H locs cells slots Q (F0 m pc ls [])) →
      W p l e rm s m args below meth c s.heap [] 0 0 Q (F0 m 0 ls [])) : ZGH l y ws rm P D T w w' as mc ms := by
  intro sz
  refine Met.ofW (cc := cc) (maxL := maxL) (ret := none) hy hw ?_
  intro p e s m args below meth c s₁ B hml hv
  obtain ⟨rfl, ⟨hsz, hP, hK, hD0⟩, hN⟩ := hv
  subst hsz
  rw [lg_entry_eq]
  refine body p e s m _ below meth c _ _ _ ⟨⟨B.exec, B.bytes, hml, findClass_of_methodNamed B.named, atoms_spec (ws := ws) B.pre⟩, hK, fun q h => Or.inr h⟩ hN (name_of_methodNamed B.named B.method).1 ⟨hP, zA_self hD0, va_S.rf⟩ (lv_entry as hlen) ?_
  intro H locs cells slots pc ls wf u M h1 h4 h5 hdg
  subst h1
  obtain ⟨hP, hD, hS⟩ := M
  refine W.widen h4 h5 ?_
  exact W.vret B.exec B.bytes B.returns (fun t ht hW => ⟨⟨u, rfl, trivial, by rw [ht]; exact hP, va_K.moved hW.alike hK, hD⟩, hS.F ht⟩) hS.2.2 hdg B.notSynchronized
section ZHEAP
variable {p : Program} {l : Launch} {e : Env} {R : Room} {s : State} {m : MethodId} {args : Array Value} {below : List Frame} {meth : Method} {c : Code} {H : Heap} {locs : List Loc} {cells slots : Nat} {Q : State → Prop}
variable {cc : ByteArray} {nL : Nat} {own : String} {Ts : List Cond} {D : va_G} {T : Nat → ClassId} {A : Nat → Prop} {ws : va_W} {pc : Nat} {ls : Array Slot} {rest : List Value}
variable {y : MethodName} {bytes : ByteArray} {maxL index n mc ms b : Nat} {wsy : List Cond} {rm : Room} {wc : va_W} {As : List Value} {P : (Nat → Prop) → State → Heap → Prop}
theorem z_callGiH {S : Type} {wG : S → va_W} (hk : zHp P) (hPs : P A s s.heap) (Z : zC p s m args c cc nL own Ts D T A) (M : zM D A s.heap ws H locs) (hM : ZGH l y wsy rm P D T wc wG (.ref b :: As) mc ms) (cw : CallB R s args own index y bytes maxL none wsy rm mc ms n ∧ y.name = "<init>" ∧ (Cond.instanceMethod y).before args s = true)
    (is : List Nat) (hC : is.map (fun i => ws[i]?) = wc.map some) (hnd : va_nd is = true) (hf : ∀ (u : S) (j : Nat), j < wc.length → ((wG u).map Prod.fst)[j]? = (wc.map Prod.fst)[j]?) (hlen : ∀ u : S, wc.length ≤ (wG u).length)
    (hn : As.length = n) (hls : ls.size = nL) (hW : (rest.map fun v => v.category).sum ≤ 8) (hdg : decode cc pc = .ok (.invokespecial index, 3)) (hroom : cells + mc ≤ R.cells ∧ slots + ms ≤ R.slots) {st : List Value} (hst : st = As.reverse ++ .ref b :: rest)
    (kk : ∀ (u : S) (H1 : Heap) (locs1 : List Loc), zM D A s.heap (z_put ws is (wG u)) H1 locs1 → W p l e R s m args below meth c H1 locs1 (cells + mc) (slots + ms) Q (F0 m (pc + 3) ls rest)) :
    W p l e R s m args below meth c H locs cells slots Q (F0 m pc ls st) := by
  subst hst
  obtain ⟨S9, hK, hA⟩ := Z
  obtain ⟨hP, hD, hS⟩ := M
  have hF := z_free hD hS hA is hC
  have hPc : va_P D vwCl wc H := fun k q hq => by
    obtain ⟨i, -, h2⟩ := z_in hC hq
    exact hP i q h2
  have hDc : va_D (fun _ => True) wc := ⟨fun i j x y hx hy hxy => by
    obtain ⟨a, h1, h2⟩ := z_in hC hx
    obtain ⟨b, g1, g2⟩ := z_in hC hy
    have e := hD.1 a b x y h2 g2 hxy
    subst e
    exact va_nd_inj is hnd i j a h1 g1, fun _ _ _ => trivial⟩
  have hPH : P (zA (wc.map Prod.fst) H.size) s H := hk.2.2 A _ s H hF (hk.2.1 A s s.heap H hS.2.1 hPs)
  refine va_callv (va_runI (As := As) (rest := rest) S9 (hM H.size) cw ⟨z_blindH hk, fun U hU hW => ⟨rfl, ⟨by rw [hU], by rw [hU]; exact hPc, va_K.moved hW.alike hK, hDc⟩, by rw [hU]; exact hk.1 _ s U H (Or.inr hW) hPH⟩⟩ rfl hn hls rfl (lv_room hW) hdg hroom) hS (fun q _ h => hF q h) hF (fun u t H1 locs1 ht hvm hw hB hz1 hk1 hS1 => ?_)
  obtain ⟨hP1, hK1, hD1⟩ := hB
  rw [ht] at hP1
  obtain ⟨hP2, hD2⟩ := z_join hP hD is hC hnd hk1 hF hP1 hD1 (hf u) (hlen u)
  exact kk u H1 locs1 ⟨hP2, hD2, hS1⟩
end ZHEAP
/-- the static empty array of the lists -/
def zE (ea : Nat) (A : Nat → Prop) (U : State) (H : Heap) : Prop := va_Z "java/util/ArrayList" "DEFAULTCAPACITY_EMPTY_ELEMENTDATA" "[Ljava/lang/Object;" (.ref ea) A U H
theorem zE_k (ea : Nat) : zHp (zE ea) := ⟨fun _ _ _ _ hvm h => va_Z.moved (zAl hvm) h, fun _ _ _ _ hq h => va_Z.kept h hq, fun _ _ _ _ hAB h => va_Z.narrow h hAB⟩
