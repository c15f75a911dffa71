/-! ===== lists ===== -/
def zQR (D : va_G) (T : Nat → ClassId) {S : Type} (w : va_W) (w' : S → va_W) (r : S → Nat) (sz : Nat) : Array Value → State → Outcome → State → Prop := va_Qr (fun (_ : S) => True) (fun u b t => b = r u ∧ zPost D T (w' u) (zA (w.map Prod.fst) sz) t) (zA (w.map Prod.fst) sz)
/-- a method that answers the address r u and leaves the cells w' u -/
def ZR (l : Launch) (y : MethodName) (ws : List Cond) (rm : Room) (D : va_G) (T : Nat → ClassId) {S : Type} (w : va_W) (w' : S → va_W) (as : List Value) (r : S → Nat) (mc ms : Nat) : Prop := ∀ sz : Nat, Met l y ws rm (va_Pc as (zPre D T w sz)) (zQR D T w w' r sz) mc ms (zA (w.map Prod.fst) sz)
theorem z_inR {l : Launch} {y : MethodName} {ws ws' : List Cond} {rm : Room} {D : va_G} {T : Nat → ClassId} {S : Type} {w : va_W} {w' : S → va_W} {as : List Value} {r : S → Nat} {mc ms : Nat} {cc : ByteArray} {maxL : Nat} {rt : FieldType}
    (hy : plainName y.cls = true) (hw : ws = Cond.code y cc maxL (some rt) :: ws') (hlen : (lg_sl as).length ≤ maxL) (hrt : (∃ n, rt = .object n) ∨ ∃ t, rt = .array t)
    (body : ∀ (p : Program) (e : Env) (s : State) (m : MethodId) (args : Array Value) (below : List Frame) (meth : Method) (c : Code) (ls : Array Slot) (A : Nat → Prop) (Q : State → Prop), zC p s m args c cc maxL y.cls ws D T A → meth.name = y.name → zM D A s.heap w s.heap [] → lv_has ls maxL (lv_args 0 as) →
      (∀ (H : Heap) (locs : List Loc) (cells slots pc : Nat) (ls : Array Slot) (v : Nat) (wf : va_W) (u : S), zM D A s.heap wf H locs → wf = w' u → v = r u → cells ≤ mc → slots ≤ ms → decode cc pc = .ok (.areturn, 1) → W p l e rm s m args below meth c H locs cells slots Q (F0 m pc ls [.ref v])) →
      W p l e rm s m args below meth c s.heap [] 0 0 Q (F0 m 0 ls [])) : ZR l y ws rm D T w w' as r mc ms := by
  intro sz
  refine Met.ofW (cc := cc) (maxL := maxL) (ret := some rt) hy hw ?_
  intro p e s m args below meth c s₁ B hml hv
  obtain ⟨rfl, hsz, hP, hK, hD0⟩ := hv
  subst hsz
  rw [lg_entry_eq]
  refine body p e s m _ below meth c _ _ _ ⟨⟨B.exec, B.bytes, hml, findClass_of_methodNamed B.named, atoms_spec (ws := ws) B.pre⟩, hK, fun q h => Or.inr h⟩ (name_of_methodNamed B.named B.method).1 ⟨hP, zA_self hD0, va_S.rf⟩ (lv_entry as hlen) ?_
  intro H locs cells slots pc ls v wf u M h1 h2 h4 h5 hdg
  subst h1; subst h2
  obtain ⟨hP, hD, hS⟩ := M
  refine W.widen h4 h5 ?_
  exact W.aret (v := .ref (r u)) B.exec B.bytes B.returns hrt (Or.inr ⟨_, rfl⟩) (fun t ht hW => ⟨⟨u, r u, rfl, trivial, rfl, by rw [ht]; exact hP, va_K.moved hW.alike hK, hD⟩, hS.F ht⟩) hS.2.2 hdg B.notSynchronized
section ZLIST
variable {p : Program} {l : Launch} {e : Env} {R : Room} {s : State} {m : MethodId} {args : Array Value} {below : List Frame} {meth : Method} {c : Code} {H : Heap} {locs : List Loc} {cells slots : Nat} {Q : State → Prop}
variable {cc : ByteArray} {nL : Nat} {own C : String} {Ts : List Cond} {D : va_G} {T : Nat → ClassId} {A : Nat → Prop} {ws : va_W} {pc : Nat} {ls : Array Slot} {rest : List Value}
variable {y : MethodName} {bytes : ByteArray} {maxL index n mc ms b : Nat} {ret : Option FieldType} {wsy : List Cond} {rm : Room} {wc : va_W} {As : List Value}
theorem z_callVr {S : Type} {wG : S → va_W} {r : S → Nat} (Z : zC p s m args c cc nL own Ts D T A) (M : zM D A s.heap ws H locs) (hM : ZR l y wsy rm D T wc wG (.ref b :: As) r mc ms) (cw : CallW R s args own C index y bytes maxL ret wsy rm mc ms n)
    (is : List Nat) (hC : is.map (fun i => ws[i]?) = wc.map some) (hnd : va_nd is = true) (hf : ∀ (u : S) (j : Nat), j < wc.length → ((wG u).map Prod.fst)[j]? = (wc.map Prod.fst)[j]?) (hlen : ∀ u : S, wc.length ≤ (wG u).length)
    (hrecv : ∃ cell : Cell, H[b]? = some cell ∧ cell.vm.isStatics = false ∧ s.vm.findClass C = some cell.cls) (hn : As.length = n) (hls : ls.size = nL) (hW : (rest.map fun v => v.category).sum ≤ 8) (hdg : decode cc pc = .ok (.invokevirtual index, 3)) (hroom : cells + mc ≤ R.cells ∧ slots + ms ≤ R.slots) {st : List Value} (hst : st = As.reverse ++ .ref b :: rest)
    (kk : ∀ (u : S) (H1 : Heap) (locs1 : List Loc), zM D A s.heap (z_put ws is (wG u)) H1 locs1 → W p l e R s m args below meth c H1 locs1 (cells + mc) (slots + ms) Q (F0 m (pc + 3) ls (.ref (r u) :: rest))) :
    W p l e R s m args below meth c H locs cells slots Q (F0 m pc ls st) := by
  subst hst
  obtain ⟨S9, hK, hA⟩ := Z
  obtain ⟨hP, hD, hS⟩ := M
  have hF := z_free hD hS hA is hC
  have hPc : va_P D vwCl wc H := fun k q hq => by
    obtain ⟨i, -, h2⟩ := z_in hC hq
    exact hP i q h2
  have hDc : va_D (fun _ => True) wc := ⟨fun i j x y hx hy hxy => by
    obtain ⟨a, h1, h2⟩ := z_in hC hx
    obtain ⟨b, g1, g2⟩ := z_in hC hy
    have e := hD.1 a b x y h2 g2 hxy
    subst e
    exact va_nd_inj is hnd i j a h1 g1, fun _ _ _ => trivial⟩
  refine va_callr (va_runV (As := As) (rest := rest) S9 (hM H.size) cw ⟨z_blind, hrecv, fun U hU hW => ⟨rfl, by rw [hU], by rw [hU]; exact hPc, va_K.moved hW.alike hK, hDc⟩⟩ rfl hn hls rfl (lv_room hW) hdg hroom) hS (fun q _ h => hF q h) hF (fun u ra t H1 locs1 ht hvm hw hB hz1 hk1 hS1 => ?_)
  obtain ⟨hr, hP1, hK1, hD1⟩ := hB
  subst hr
  rw [ht] at hP1
  obtain ⟨hP2, hD2⟩ := z_join hP hD is hC hnd hk1 hF hP1 hD1 (hf u) (hlen u)
  exact kk u H1 locs1 ⟨hP2, hD2, hS1⟩
end ZLIST
/-- a list L over the array r of n places, of which c are taken -/
abbrev liW (L r n : Nat) (T : Nat → ClassId) (k c : Int32) (f : Nat → Option Nat) : va_W := [(L, .inr (0, [.int k, .ref r, .int c])), (r, .inl (T 3, n, .inr (.inr (.inr (.inr f)))))]
abbrev leW (L : Nat) (x : Value) (k c : Int32) : va_W := [(L, .inr (0, [.int k, x, .int c]))]
set_option maxHeartbeats 4000000 in
theorem cl_size (l : Launch) (D : va_G) (T : Nat → ClassId) (L : Nat) (x : Value) (k c : Int32) : ZI l yJx4a65c_size_8abf5 wsJx4a65c_size_8abf5 (zrm 0 0) D T (leW L x k c) (leW L x k c) [.ref L] c 0 0 := by
  refine z_inI (cc := cJx4a65c_size_8abf5) (maxL := 1) (rt := .int) (by decide +kernel) rfl (Nat.le_of_ble_eq_true rfl) ?_
  intro p e s m args below meth c9 ls9 A Q Z hnm M hl9 hret
  have Z : zC p s m args c9 cJx4a65c_size_8abf5 1 RJx4a65c wsJx4a65c_size_8abf5 D T A := Z
  have hx := Z.1.1
  have hb := Z.1.2.1
  have hts := Z.1.2.2.2.2
  have hinL : ∀ w ∈ wsJx4a65c0, w ∈ wsJx4a65c_size_8abf5 := by decide +kernel
  have L48 := hts (.fieldLink RJx4a65c 48 "java/util/ArrayList" "size" "I") (by decide +kernel)
  have hl9 : lv_has ls9 1 [(0, .ref L)] := hl9
  refine lv_aload_n hx hb dJx4a65c_size_8abf5_0 rfl (lv_at hl9 0 rfl) ?_
  refine z_getf Z M hinL 0 rfl rfl 2 (by decide) L48 rfl (v := .int c) rfl dJx4a65c_size_8abf5_1 ?_
  exact hret _ _ _ _ _ ls9 _ _ M rfl rfl rfl (Nat.le_refl _) (Nat.le_refl _) dJx4a65c_size_8abf5_4
set_option maxHeartbeats 4000000 in
theorem cl_elem (l : Launch) (D : va_G) (T : Nat → ClassId) (L r n i x : Nat) (k c : Int32) (f : Nat → Option Nat) (hi : i < n) (hn : n < 2 ^ 31) (hf : f i = some x) : ZR l yJx4a65c_elementData_915e3 wsJx4a65c_elementData_915e3 (zrm 0 0) D T (liW L r n T k c f) (fun _ : Unit => liW L r n T k c f) [.ref L, .int (nI i)] (fun _ => x) 0 0 := by
  refine z_inR (cc := cJx4a65c_elementData_915e3) (maxL := 2) (rt := .object "java/lang/Object") (by decide +kernel) rfl (Nat.le_of_ble_eq_true rfl) (Or.inl ⟨_, rfl⟩) ?_
  intro p e s m args below meth c9 ls9 A Q Z hnm M hl9 hret
  have Z : zC p s m args c9 cJx4a65c_elementData_915e3 2 RJx4a65c wsJx4a65c_elementData_915e3 D T A := Z
  have hx := Z.1.1
  have hb := Z.1.2.1
  have hts := Z.1.2.2.2.2
  have hinL : ∀ w ∈ wsJx4a65c0, w ∈ wsJx4a65c_elementData_915e3 := by decide +kernel
  have L9 := hts (.fieldLink RJx4a65c 9 "java/util/ArrayList" "elementData" "[Ljava/lang/Object;") (by decide +kernel)
  have hl9 : lv_has ls9 2 [(0, .ref L), (1, .int (nI i))] := hl9
  refine lv_aload_n hx hb dJx4a65c_elementData_915e3_0 rfl (lv_at hl9 0 rfl) ?_
  refine z_getf Z M hinL 0 rfl rfl 1 (by decide) L9 rfl (v := .ref r) rfl dJx4a65c_elementData_915e3_1 ?_
  refine lv_iload_n hx hb dJx4a65c_elementData_915e3_4 rfl (lv_at hl9 1 rfl) ?_
  refine va_aldq Z.1.1 Z.1.2.1 Z.2.1 M.1 1 3 (cA := T 3) (n := n) (f := f) rfl rfl (vp_in_nI hi hn) dJx4a65c_elementData_915e3_5 ?_
  rw [nI_clamp (by omega), hf]
  exact hret _ _ _ _ _ ls9 x _ () M rfl rfl (Nat.le_refl _) (Nat.le_refl _) dJx4a65c_elementData_915e3_6
