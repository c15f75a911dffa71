/-! ===== own rows: contracts over a list of cells that a method keeps in place ===== -/
/-- the kinds of arrays: of int, boolean, long, objects, steels -/
def zT (T : Nat → ClassId) : List (ClassId × FieldType) := [(T 0, .int), (T 1, .int), (T 2, .int), (T 3, .object "java/lang/Object"), (T 4, .object "AnvilHouse$Steel")]
def zM (D : va_G) (A : Nat → Prop) (H0 : Heap) (ws : va_W) (H : Heap) (locs : List Loc) : Prop := va_P D vwCl ws H ∧ va_D A ws ∧ va_S A H0 H locs
def zC (p : Program) (s : State) (m : MethodId) (args : Array Value) (c : Code) (cc : ByteArray) (nL : Nat) (own : String) (Ts : List Cond) (D : va_G) (T : Nat → ClassId) (A : Nat → Prop) : Prop := CallFix p m c cc nL s args Ts own ∧ va_K D vwCl (zT T) s ∧ ∀ q : Nat, s.heap.size ≤ q → A q
def zPre (D : va_G) (T : Nat → ClassId) (w : va_W) (sz : Nat) : State → Prop := fun U => U.heap.size = sz ∧ va_P D vwCl w U.heap ∧ va_K D vwCl (zT T) U ∧ va_D (fun _ => True) w
def zA (as : List Nat) (sz : Nat) : Nat → Prop := fun q => q ∈ as ∨ sz ≤ q
def zPost (D : va_G) (T : Nat → ClassId) (w : va_W) (A : Nat → Prop) : State → Prop := fun t => va_P D vwCl w t.heap ∧ va_K D vwCl (zT T) t ∧ va_D A w
def zQI (D : va_G) (T : Nat → ClassId) (w w' : va_W) (rv : Int32) (sz : Nat) : Array Value → State → Outcome → State → Prop := va_Qi (fun r (_ : Unit) => r = rv) (fun _ t => zPost D T w' (zA (w.map Prod.fst) sz) t) (zA (w.map Prod.fst) sz)
def zQV (D : va_G) (T : Nat → ClassId) (w w' : va_W) (sz : Nat) : Array Value → State → Outcome → State → Prop := va_Qv (fun (_ : Unit) => True) (fun _ t => zPost D T w' (zA (w.map Prod.fst) sz) t) (zA (w.map Prod.fst) sz)
/-- a method that answers rv and turns the cells w into w' -/
def ZI (l : Launch) (y : MethodName) (ws : List Cond) (rm : Room) (D : va_G) (T : Nat → ClassId) (w w' : va_W) (as : List Value) (rv : Int32) (mc ms : Nat) : Prop := ∀ sz : Nat, Met l y ws rm (va_Pc as (zPre D T w sz)) (zQI D T w w' rv sz) mc ms (zA (w.map Prod.fst) sz)
def ZV (l : Launch) (y : MethodName) (ws : List Cond) (rm : Room) (D : va_G) (T : Nat → ClassId) (w w' : va_W) (as : List Value) (mc ms : Nat) : Prop := ∀ sz : Nat, Met l y ws rm (va_Pc as (zPre D T w sz)) (zQV D T w w' sz) mc ms (zA (w.map Prod.fst) sz)
/-- a static method over numbers alone -/
def ZS (l : Launch) (y : MethodName) (ws : List Cond) (rm : Room) (as : List Value) (rv : Int32) : Prop := Met l y ws rm (fun a _ => a = as.toArray) (fun _ st o t => o = .returned (some (.int rv)) ∧ t.heap = st.heap) 0 0 (fun _ => False)
def zrm (f n : Nat) : Room := { frames := f, cells := 0, slots := 0, locals := n }
def zrmc (f n mc ms : Nat) : Room := { frames := f, cells := mc, slots := ms, locals := n }
theorem zA_self {w : va_W} {sz : Nat} {A : Nat → Prop} (h : va_D A w) : va_D (zA (w.map Prod.fst) sz) w := ⟨h.1, fun k q hk => Or.inl (List.mem_map.mpr ⟨q, List.mem_of_getElem? hk, rfl⟩)⟩
theorem z_blind {as : List Value} {D : va_G} {T : Nat → ClassId} {w : va_W} {sz : Nat} : FrameBlind (va_Pc as (zPre D T w sz)) := fun a U g mk q => by
  obtain ⟨q0, q1, qP, qK, qD⟩ := q
  exact ⟨q0, q1, qP, va_K.moved (u := U) (U := U.calling g mk a) (Vm.Alike.refl U.vm) qK, qD⟩
/-- a callee's cells put back at their places; what is over comes behind -/
def z_put (ws : va_W) (ks : List Nat) (w1 : va_W) : va_W := match ks with
  | [] => ws ++ w1
  | k :: ks => match w1 with
    | [] => ws
    | q :: w1 => z_put (ws.set k q) ks w1
theorem z_put_at : ∀ (ks : List Nat) (ws w1 : va_W) (k : Nat) (q : Nat × va_E), ks.length ≤ w1.length → va_nd ks = true → (∀ i ∈ ks, i < ws.length) → (z_put ws ks w1)[k]? = some q →
    (∃ j : Nat, ks[j]? = some k ∧ w1[j]? = some q) ∨ (k ∉ ks ∧ ws[k]? = some q) ∨ (ws.length ≤ k ∧ w1[ks.length + (k - ws.length)]? = some q)
  | [], ws, w1, k, q, _, _, _, h => by
    rw [z_put] at h
    by_cases hk : k < ws.length
    · rw [List.getElem?_append_left hk] at h
      exact Or.inr (Or.inl ⟨List.not_mem_nil, h⟩)
    · rw [List.getElem?_append_right (by omega)] at h
      exact Or.inr (Or.inr ⟨by omega, by rw [List.length_nil, Nat.zero_add]; exact h⟩)
  | i :: ks, ws, [], k, q, hl, _, _, _ => absurd hl (by simp)
  | i :: ks, ws, x :: w1, k, q, hl, hn, hb, h => by
    have hinj := va_nd_inj (i :: ks) hn
    have hn2 : va_nd ks = true := by
      have h9 := hn
      unfold va_nd at h9
      simp only [Bool.and_eq_true] at h9
      exact h9.2
    have hi : i < ws.length := hb i List.mem_cons_self
    have hni : i ∉ ks := by
      intro hm
      obtain ⟨j, hj⟩ := List.getElem?_of_mem hm
      have := hinj 0 (j + 1) i rfl hj
      omega
    rw [z_put] at h
    rcases z_put_at ks (ws.set i x) w1 k q (by simpa using hl) hn2 (fun j hj => by rw [List.length_set]; exact hb j (List.mem_cons_of_mem _ hj)) h with ⟨j, h1, h2⟩ | ⟨h1, h2⟩ | ⟨h1, h2⟩
    · exact Or.inl ⟨j + 1, h1, h2⟩
    · by_cases hk : k = i
      · subst hk
        rw [List.getElem?_set_self hi] at h2
        exact Or.inl ⟨0, rfl, h2⟩
      · rw [List.getElem?_set_ne (Ne.symm hk)] at h2
        exact Or.inr (Or.inl ⟨fun hm => (List.mem_cons.mp hm).elim hk h1, h2⟩)
    · rw [List.length_set] at h1 h2
      refine Or.inr (Or.inr ⟨h1, ?_⟩)
      rw [List.length_cons, show ks.length + 1 + (k - ws.length) = (ks.length + (k - ws.length)) + 1 by omega, List.getElem?_cons_succ]
      exact h2
theorem z_in {ws wc : va_W} {is : List Nat} (hs : is.map (fun i => ws[i]?) = wc.map some) {k : Nat} {q : Nat × va_E} (hq : wc[k]? = some q) : ∃ i, is[k]? = some i ∧ ws[i]? = some q := by
  have h1 : (is.map (fun i => ws[i]?))[k]? = some (some q) := by rw [hs, List.getElem?_map, hq]; rfl
  rw [List.getElem?_map] at h1
  cases hi : is[k]? with
  | none => rw [hi] at h1; cases h1
  | some i => rw [hi] at h1; exact ⟨i, rfl, Option.some.inj h1⟩
theorem z_in2 {ws wc : va_W} {is : List Nat} (hs : is.map (fun i => ws[i]?) = wc.map some) {k i : Nat} (hi : is[k]? = some i) : ∃ q, wc[k]? = some q ∧ ws[i]? = some q := by
  have h1 : (wc.map some)[k]? = some (ws[i]?) := by rw [← hs, List.getElem?_map, hi]; rfl
  rw [List.getElem?_map] at h1
  cases hq : wc[k]? with
  | none => rw [hq] at h1; cases h1
  | some q => rw [hq] at h1; exact ⟨q, rfl, (Option.some.inj h1).symm⟩
theorem z_join {A0 : Nat → Prop} {D : va_G} {ws wc w1 : va_W} {H H1 : Heap} (hP : va_P D vwCl ws H) (hD : va_D A0 ws) (is : List Nat) (hC : is.map (fun i => ws[i]?) = wc.map some) (hn : va_nd is = true)
    (hk : ∀ q : Nat, q < H.size → ¬ zA (wc.map Prod.fst) H.size q → H1[q]? = H[q]?) (hF : ∀ q, zA (wc.map Prod.fst) H.size q → A0 q) (hP1 : va_P D vwCl w1 H1) (hD1 : va_D (zA (wc.map Prod.fst) H.size) w1)
    (hf : ∀ j : Nat, j < wc.length → (w1.map Prod.fst)[j]? = (wc.map Prod.fst)[j]?) (hlen : wc.length ≤ w1.length) : va_P D vwCl (z_put ws is w1) H1 ∧ va_D A0 (z_put ws is w1) := by
  have hil : is.length = wc.length := by have := congrArg List.length hC; simpa using this
  have hb : ∀ i ∈ is, i < ws.length := by
    intro i hi
    obtain ⟨j, hj⟩ := List.getElem?_of_mem hi
    obtain ⟨q, -, h2⟩ := z_in2 hC hj
    exact (List.getElem?_eq_some_iff.mp h2).1
  have A := z_put_at is ws w1
  have out : ∀ (k : Nat) (q : Nat × va_E), k ∉ is → ws[k]? = some q → q.1 < H.size ∧ ¬ zA (wc.map Prod.fst) H.size q.1 := by
    intro k q hk hq
    have hl := (hP k q hq).lt
    refine ⟨hl, fun h => ?_⟩
    rcases h with h | h
    · obtain ⟨x, hx, hxe⟩ := List.mem_map.mp h
      obtain ⟨j, hj⟩ := List.getElem?_of_mem hx
      obtain ⟨i, h3, h4⟩ := z_in hC hj
      have hij := hD.1 k i q x hq h4 hxe.symm
      subst hij
      exact hk (List.mem_of_getElem? h3)
    · omega
  refine ⟨fun k q h => ?_, fun i j x y hx hy hxy => ?_, fun k q h => ?_⟩
  · rcases A k q (by omega) hn hb h with ⟨j, h1, h2⟩ | ⟨h1, h2⟩ | ⟨h1, h2⟩
    · exact hP1 j q h2
    · obtain ⟨g1, g2⟩ := out k q h1 h2
      exact (hP k q h2).kept (hk _ g1 g2)
    · exact hP1 _ q h2
  · have fresh : ∀ (k : Nat) (q : Nat × va_E), w1[k]? = some q → zA (wc.map Prod.fst) H.size q.1 := fun k q h => hD1.2 k q h
    rcases A i x (by omega) hn hb hx with ⟨a, h1, h2⟩ | ⟨h1, h2⟩ | ⟨h1, h2⟩ <;> rcases A j y (by omega) hn hb hy with ⟨b, g1, g2⟩ | ⟨g1, g2⟩ | ⟨g1, g2⟩
    · have e := hD1.1 a b x y h2 g2 hxy
      subst e
      exact Option.some.inj (h1.symm.trans g1)
    · exact absurd (hxy ▸ fresh a x h2) (out j y g1 g2).2
    · have e := hD1.1 _ _ x y h2 g2 hxy
      have := (List.getElem?_eq_some_iff.mp h1).1
      omega
    · exact absurd (hxy.symm ▸ fresh b y g2) (out i x h1 h2).2
    · exact hD.1 i j x y h2 g2 hxy
    · exact absurd (hxy.symm ▸ fresh _ y g2) (out i x h1 h2).2
    · have e := hD1.1 _ _ x y h2 g2 hxy
      have := (List.getElem?_eq_some_iff.mp g1).1
      omega
    · exact absurd (hxy ▸ fresh _ x h2) (out j y g1 g2).2
    · have e := hD1.1 _ _ x y h2 g2 hxy
      omega
  · rcases A k q (by omega) hn hb h with ⟨j, h1, h2⟩ | ⟨h1, h2⟩ | ⟨h1, h2⟩
    · exact hF _ (hD1.2 j q h2)
    · exact hD.2 k q h2
    · exact hF _ (hD1.2 _ q h2)
theorem z_free {A0 : Nat → Prop} {ws wc : va_W} {H0 H : Heap} {locs : List Loc} (hD : va_D A0 ws) (hS : va_S A0 H0 H locs) (hA : ∀ q, H0.size ≤ q → A0 q) (is : List Nat) (hC : is.map (fun i => ws[i]?) = wc.map some) : ∀ q, zA (wc.map Prod.fst) H.size q → A0 q := by
  intro q h
  rcases h with h | h
  · obtain ⟨x, hx, rfl⟩ := List.mem_map.mp h
    obtain ⟨j, hj⟩ := List.getElem?_of_mem hx
    obtain ⟨i, -, h4⟩ := z_in hC hj
    exact hD.2 i x h4
  · exact hA q (Nat.le_trans hS.1 h)
/-! entries and ends -/
theorem z_ofI {l : Launch} {y : MethodName} {ws ws' : List Cond} {rm : Room} {D : va_G} {T : Nat → ClassId} {w w' : va_W} {as : List Value} {rv : Int32} {mc ms : Nat} {cc : ByteArray} {maxL : Nat} {ret : Option FieldType}
    (hy : plainName y.cls = true) (hw : ws = Cond.code y cc maxL ret :: ws') (hlen : (lg_sl as).length ≤ maxL)
    (body : ∀ (p : Program) (e : Env) (s : State) (m : MethodId) (args : Array Value) (below : List Frame) (meth : Method) (c : Code) (ls : Array Slot) (A : Nat → Prop), A = zA (w.map Prod.fst) s.heap.size → zC p s m args c cc maxL y.cls ws D T A → meth.sig.returnType = ret → meth.locks = false → meth.name = y.name → zM D A s.heap w s.heap [] → lv_has ls maxL (lv_args 0 as) →
      W p l e rm s m args below meth c s.heap [] 0 0 (MQ below (zQI D T w w' rv s.heap.size) args s mc ms A) (F0 m 0 ls [])) : ZI l y ws rm D T w w' as rv mc ms := by
  intro sz
  refine Met.ofW (cc := cc) (maxL := maxL) (ret := ret) hy hw ?_
  intro p e s m args below meth c s₁ B hml hv
  obtain ⟨rfl, hsz, hP, hK, hD0⟩ := hv
  subst hsz
  rw [lg_entry_eq]
  exact body p e s m _ below meth c _ _ rfl ⟨⟨B.exec, B.bytes, hml, findClass_of_methodNamed B.named, atoms_spec (ws := ws) B.pre⟩, hK, fun q h => Or.inr h⟩ B.returns B.notSynchronized (name_of_methodNamed B.named B.method).1 ⟨hP, zA_self hD0, va_S.rf⟩ (lv_entry as hlen)
theorem z_ofV {l : Launch} {y : MethodName} {ws ws' : List Cond} {rm : Room} {D : va_G} {T : Nat → ClassId} {w w' : va_W} {as : List Value} {mc ms : Nat} {cc : ByteArray} {maxL : Nat} {ret : Option FieldType}
    (hy : plainName y.cls = true) (hw : ws = Cond.code y cc maxL ret :: ws') (hlen : (lg_sl as).length ≤ maxL)
    (body : ∀ (p : Program) (e : Env) (s : State) (m : MethodId) (args : Array Value) (below : List Frame) (meth : Method) (c : Code) (ls : Array Slot) (A : Nat → Prop), A = zA (w.map Prod.fst) s.heap.size → zC p s m args c cc maxL y.cls ws D T A → meth.sig.returnType = ret → meth.locks = false → meth.name = y.name → zM D A s.heap w s.heap [] → lv_has ls maxL (lv_args 0 as) →
      W p l e rm s m args below meth c s.heap [] 0 0 (MQ below (zQV D T w w' s.heap.size) args s mc ms A) (F0 m 0 ls [])) : ZV l y ws rm D T w w' as mc ms := by
  intro sz
  refine Met.ofW (cc := cc) (maxL := maxL) (ret := ret) hy hw ?_
  intro p e s m args below meth c s₁ B hml hv
  obtain ⟨rfl, hsz, hP, hK, hD0⟩ := hv
  subst hsz
  rw [lg_entry_eq]
  exact body p e s m _ below meth c _ _ rfl ⟨⟨B.exec, B.bytes, hml, findClass_of_methodNamed B.named, atoms_spec (ws := ws) B.pre⟩, hK, fun q h => Or.inr h⟩ B.returns B.notSynchronized (name_of_methodNamed B.named B.method).1 ⟨hP, zA_self hD0, va_S.rf⟩ (lv_entry as hlen)
theorem z_ofS {l : Launch} {y : MethodName} {ws ws' : List Cond} {rm : Room} {as : List Value} {rv : Int32} {cc : ByteArray} {maxL : Nat} {ret : Option FieldType}
    (hy : plainName y.cls = true) (hw : ws = Cond.code y cc maxL ret :: ws') (hlen : (lg_sl as).length ≤ maxL)
    (body : ∀ (p : Program) (e : Env) (s : State) (m : MethodId) (args : Array Value) (below : List Frame) (meth : Method) (c : Code) (ls : Array Slot), CallFix p m c cc maxL s args ws y.cls → meth.sig.returnType = ret → meth.locks = false → lv_has ls maxL (lv_args 0 as) →
      W p l e rm s m args below meth c s.heap [] 0 0 (MQ below (fun _ st o t => o = .returned (some (.int rv)) ∧ t.heap = st.heap) args s 0 0 (fun _ => False)) (F0 m 0 ls [])) : ZS l y ws rm as rv := by
  refine Met.ofW (cc := cc) (maxL := maxL) (ret := ret) hy hw ?_
  intro p e s m args below meth c s₁ B hml hv
  subst hv
  rw [lg_entry_eq]
  exact body p e s m _ below meth c _ ⟨B.exec, B.bytes, hml, findClass_of_methodNamed B.named, atoms_spec (ws := ws) B.pre⟩ B.returns B.notSynchronized (lv_entry as hlen)
section ZK
variable {p : Program} {l : Launch} {e : Env} {R : Room} {s : State} {m : MethodId} {args : Array Value} {below : List Frame} {meth : Method} {c : Code} {H : Heap} {locs : List Loc} {cells slots : Nat} {Q : State → Prop}
variable {cc : ByteArray} {nL : Nat} {own : String} {Ts : List Cond} {D : va_G} {T : Nat → ClassId} {A : Nat → Prop} {ws : va_W} {pc : Nat} {ls : Array Slot} {rest : List Value}
theorem z_iret {w w' wf : va_W} {rv v : Int32} {mc ms : Nat} (C : zC p s m args c cc nL own Ts D T A) (hr : meth.sig.returnType = some .int) (hlocks : meth.locks = false) (hA : A = zA (w.map Prod.fst) s.heap.size) (M : zM D A s.heap wf H locs) (hwf : wf = w') (hv : v = rv) (hc : cells ≤ mc) (hs : slots ≤ ms) (hdg : decode cc pc = .ok (.ireturn, 1)) :
    W p l e R s m args below meth c H locs cells slots (MQ below (zQI D T w w' rv s.heap.size) args s mc ms A) (F0 m pc ls [.int v]) := by
  subst hwf; subst hv; subst hA
  obtain ⟨⟨hx, hb, hml, hown, hts⟩, hK, hA⟩ := C
  obtain ⟨hP, hD, hS⟩ := M
  refine W.widen hc hs ?_
  exact W.iret (v := v) hx hb hr (fun t ht hW => ⟨⟨v, (), rfl, rfl, by rw [ht]; exact hP, va_K.moved hW.alike hK, hD⟩, hS.F ht⟩) hS.2.2 hdg hlocks
theorem z_zret {w w' wf : va_W} {rv v : Int32} {mc ms : Nat} {ty : FieldType} (C : zC p s m args c cc nL own Ts D T A) (hr : meth.sig.returnType = some ty) (hn : narrow ty (.int v) = .int v) (hlocks : meth.locks = false) (hA : A = zA (w.map Prod.fst) s.heap.size) (M : zM D A s.heap wf H locs) (hwf : wf = w') (hv : v = rv) (hc : cells ≤ mc) (hs : slots ≤ ms) (hdg : decode cc pc = .ok (.ireturn, 1)) :
    W p l e R s m args below meth c H locs cells slots (MQ below (zQI D T w w' rv s.heap.size) args s mc ms A) (F0 m pc ls [.int v]) := by
  subst hwf; subst hv; subst hA
  obtain ⟨⟨hx, hb, hml, hown, hts⟩, hK, hA⟩ := C
  obtain ⟨hP, hD, hS⟩ := M
  refine W.widen hc hs ?_
  exact W.zret (v := v) hx hb hr hn (fun t ht hW => ⟨⟨v, (), rfl, rfl, by rw [ht]; exact hP, va_K.moved hW.alike hK, hD⟩, hS.F ht⟩) hS.2.2 hdg hlocks
theorem z_vret {w w' wf : va_W} {mc ms : Nat} (C : zC p s m args c cc nL own Ts D T A) (hr : meth.sig.returnType = none) (hlocks : meth.locks = false) (hA : A = zA (w.map Prod.fst) s.heap.size) (M : zM D A s.heap wf H locs) (hwf : wf = w') (hc : cells ≤ mc) (hs : slots ≤ ms) (hdg : decode cc pc = .ok (.return_, 1)) :
    W p l e R s m args below meth c H locs cells slots (MQ below (zQV D T w w' s.heap.size) args s mc ms A) (F0 m pc ls []) := by
  subst hwf; subst hA
  obtain ⟨⟨hx, hb, hml, hown, hts⟩, hK, hA⟩ := C
  obtain ⟨hP, hD, hS⟩ := M
  refine W.widen hc hs ?_
  exact W.vret hx hb hr (fun t ht hW => ⟨⟨(), rfl, trivial, by rw [ht]; exact hP, va_K.moved hW.alike hK, hD⟩, hS.F ht⟩) hS.2.2 hdg hlocks
theorem z_siret {rv v : Int32} (C : CallFix p m c cc nL s args Ts own) (hr : meth.sig.returnType = some .int) (hlocks : meth.locks = false) (hv : v = rv) (hdg : decode cc pc = .ok (.ireturn, 1)) :
    W p l e R s m args below meth c s.heap [] 0 0 (MQ below (fun _ st o t => o = .returned (some (.int rv)) ∧ t.heap = st.heap) args s 0 0 (fun _ => False)) (F0 m pc ls [.int v]) := by
  subst hv
  obtain ⟨hx, hb, hml, hown, hts⟩ := C
  exact W.iret (v := v) hx hb hr (fun t ht hW => ⟨rfl, ht⟩) (fun q h => by cases h) hdg hlocks
theorem z_szret {rv v : Int32} {ty : FieldType} (C : CallFix p m c cc nL s args Ts own) (hr : meth.sig.returnType = some ty) (hn : narrow ty (.int v) = .int v) (hlocks : meth.locks = false) (hv : v = rv) (hdg : decode cc pc = .ok (.ireturn, 1)) :
    W p l e R s m args below meth c s.heap [] 0 0 (MQ below (fun _ st o t => o = .returned (some (.int rv)) ∧ t.heap = st.heap) args s 0 0 (fun _ => False)) (F0 m pc ls [.int v]) := by
  subst hv
  obtain ⟨hx, hb, hml, hown, hts⟩ := C
  exact W.zret (v := v) hx hb hr hn (fun t ht hW => ⟨rfl, ht⟩) (fun q h => by cases h) hdg hlocks
/-! calls of methods that keep their cells' places -/
section ZCALL
variable {C : String} {y : MethodName} {bytes : ByteArray} {maxL index n mc ms : Nat} {ret : Option FieldType} {wsy : List Cond} {rm : Room} {wc wc' : va_W} {rv : Int32} {b : Nat} {As : List Value} {H0 : Heap}
theorem z_callVi (Z : zC p s m args c cc nL own Ts D T A) (M : zM D A s.heap ws H locs) (hM : ZI l y wsy rm D T wc wc' (.ref b :: As) rv mc ms) (cw : CallW R s args own C index y bytes maxL ret wsy rm mc ms n)
    (is : List Nat) (hC : is.map (fun i => ws[i]?) = wc.map some) (hnd : va_nd is = true) (hf : ∀ j : Nat, j < wc.length → (wc'.map Prod.fst)[j]? = (wc.map Prod.fst)[j]?) (hlen : wc.length ≤ wc'.length)
    (hrecv : ∃ cell : Cell, H[b]? = some cell ∧ cell.vm.isStatics = false ∧ s.vm.findClass C = some cell.cls) (hn : As.length = n) (hls : ls.size = nL) (hW : (rest.map fun v => v.category).sum ≤ 8) (hdg : decode cc pc = .ok (.invokevirtual index, 3)) (hroom : cells + mc ≤ R.cells ∧ slots + ms ≤ R.slots) {st : List Value} (hst : st = As.reverse ++ .ref b :: rest)
    (kk : ∀ (H1 : Heap) (locs1 : List Loc), zM D A s.heap (z_put ws is wc') H1 locs1 → W p l e R s m args below meth c H1 locs1 (cells + mc) (slots + ms) Q (F0 m (pc + 3) ls (.int rv :: rest))) :
    W p l e R s m args below meth c H locs cells slots Q (F0 m pc ls st) := by
  subst hst
  obtain ⟨S, hK, hA⟩ := Z
  obtain ⟨hP, hD, hS⟩ := M
  have hF := z_free hD hS hA is hC
  have hPc : va_P D vwCl wc H := fun k q hq => by
    obtain ⟨i, -, h2⟩ := z_in hC hq
    exact hP i q h2
  have hDc : va_D (fun _ => True) wc := ⟨fun i j x y hx hy hxy => by
    obtain ⟨a, h1, h2⟩ := z_in hC hx
    obtain ⟨b, g1, g2⟩ := z_in hC hy
    have e := hD.1 a b x y h2 g2 hxy
    subst e
    exact va_nd_inj is hnd i j a h1 g1, fun _ _ _ => trivial⟩
  refine va_calli (va_runV (As := As) (rest := rest) S (hM H.size) cw ⟨z_blind, hrecv, fun U hU hW => ⟨rfl, by rw [hU], by rw [hU]; exact hPc, va_K.moved hW.alike hK, hDc⟩⟩ rfl hn hls rfl (lv_room hW) hdg hroom) hS (fun q _ h => hF q h) hF (fun r u t H1 locs1 ht hvm hw hB hz1 hk1 hS1 => ?_)
  obtain ⟨hP1, hK1, hD1⟩ := hB
  rw [ht] at hP1
  obtain ⟨hP2, hD2⟩ := z_join hP hD is hC hnd hk1 hF hP1 hD1 hf hlen
  have hw : r = rv := hw
  subst hw
  exact kk H1 locs1 ⟨hP2, hD2, hS1⟩
theorem z_callVv (Z : zC p s m args c cc nL own Ts D T A) (M : zM D A s.heap ws H locs) (hM : ZV l y wsy rm D T wc wc' (.ref b :: As) mc ms) (cw : CallW R s args own C index y bytes maxL ret wsy rm mc ms n)
    (is : List Nat) (hC : is.map (fun i => ws[i]?) = wc.map some) (hnd : va_nd is = true) (hf : ∀ j : Nat, j < wc.length → (wc'.map Prod.fst)[j]? = (wc.map Prod.fst)[j]?) (hlen : wc.length ≤ wc'.length)
    (hrecv : ∃ cell : Cell, H[b]? = some cell ∧ cell.vm.isStatics = false ∧ s.vm.findClass C = some cell.cls) (hn : As.length = n) (hls : ls.size = nL) (hW : (rest.map fun v => v.category).sum ≤ 8) (hdg : decode cc pc = .ok (.invokevirtual index, 3)) (hroom : cells + mc ≤ R.cells ∧ slots + ms ≤ R.slots) {st : List Value} (hst : st = As.reverse ++ .ref b :: rest)
    (kk : ∀ (H1 : Heap) (locs1 : List Loc), zM D A s.heap (z_put ws is wc') H1 locs1 → W p l e R s m args below meth c H1 locs1 (cells + mc) (slots + ms) Q (F0 m (pc + 3) ls rest)) :
    W p l e R s m args below meth c H locs cells slots Q (F0 m pc ls st) := by
  subst hst
  obtain ⟨S, hK, hA⟩ := Z
  obtain ⟨hP, hD, hS⟩ := M
  have hF := z_free hD hS hA is hC
  have hPc : va_P D vwCl wc H := fun k q hq => by
    obtain ⟨i, -, h2⟩ := z_in hC hq
    exact hP i q h2
  have hDc : va_D (fun _ => True) wc := ⟨fun i j x y hx hy hxy => by
    obtain ⟨a, h1, h2⟩ := z_in hC hx
    obtain ⟨b, g1, g2⟩ := z_in hC hy
    have e := hD.1 a b x y h2 g2 hxy
    subst e
    exact va_nd_inj is hnd i j a h1 g1, fun _ _ _ => trivial⟩
  refine va_callv (va_runV (As := As) (rest := rest) S (hM H.size) cw ⟨z_blind, hrecv, fun U hU hW => ⟨rfl, by rw [hU], by rw [hU]; exact hPc, va_K.moved hW.alike hK, hDc⟩⟩ rfl hn hls rfl (lv_room hW) hdg hroom) hS (fun q _ h => hF q h) hF (fun u t H1 locs1 ht hvm hw hB hz1 hk1 hS1 => ?_)
  obtain ⟨hP1, hK1, hD1⟩ := hB
  rw [ht] at hP1
  obtain ⟨hP2, hD2⟩ := z_join hP hD is hC hnd hk1 hF hP1 hD1 hf hlen
  exact kk H1 locs1 ⟨hP2, hD2, hS1⟩
/-- a static method over numbers: nothing of the heap changes -/
theorem z_callSi (S : CallFix p m c cc nL s args Ts own) (hM : ZS l y wsy rm As rv) (cw : CallB R s args own index y bytes maxL ret wsy rm 0 0 n ∧ (Cond.static y).before args s = true) (hn : As.length = n) (hls : ls.size = nL) (hW : (rest.map fun v => v.category).sum ≤ 8) (hdg : decode cc pc = .ok (.invokestatic index, 3)) (hroom : cells ≤ R.cells ∧ slots ≤ R.slots) {st : List Value} (hst : st = As.reverse ++ rest)
    (kk : W p l e R s m args below meth c H locs cells slots Q (F0 m (pc + 3) ls (.int rv :: rest))) : W p l e R s m args below meth c H locs cells slots Q (F0 m pc ls st) := by
  subst hst
  have hr := va_runS (p := p) (l := l) (e := e) (R := R) (s := s) (m := m) (args := args) (below := below) (meth := meth) (c := c) (H := H) (locs := locs) (cells := cells) (slots := slots) (g := F0 m pc ls (As.reverse ++ rest)) (As := As) (rest := rest) S hM cw ⟨fun a U g mk q => q, fun U hU hW => rfl⟩ rfl hn hls rfl (lv_room hW) hdg hroom
  intro T9 hT X
  obtain ⟨v, st₀, t, T', L, h0, X', hL, e1, e2, ⟨hq1, hq2⟩, go⟩ := hr T9 hT X
  cases hq1
  have hL0 : L = [] := by
    cases L with
    | nil => rfl
    | cons a b => exact absurd (hL a List.mem_cons_self) (fun h => h)
  subst hL0
  rw [List.append_nil] at X'
  have hH : T'.heap = H := by rw [e1, hq2, h0]
  obtain ⟨t2, a1, b1⟩ := kk T' hH X'
  exact ⟨t2, go t2 a1, b1⟩
end ZCALL
end ZK
/-! the entries with the end as one premise -/
theorem z_inI {l : Launch} {y : MethodName} {ws ws' : List Cond} {rm : Room} {D : va_G} {T : Nat → ClassId} {w w' : va_W} {as : List Value} {rv : Int32} {mc ms : Nat} {cc : ByteArray} {maxL : Nat} {rt : FieldType}
    (hy : plainName y.cls = true) (hw : ws = Cond.code y cc maxL (some rt) :: ws') (hlen : (lg_sl as).length ≤ maxL)
    (body : ∀ (p : Program) (e : Env) (s : State) (m : MethodId) (args : Array Value) (below : List Frame) (meth : Method) (c : Code) (ls : Array Slot) (A : Nat → Prop) (Q : State → Prop), zC p s m args c cc maxL y.cls ws D T A → meth.name = y.name → zM D A s.heap w s.heap [] → lv_has ls maxL (lv_args 0 as) →
      (∀ (H : Heap) (locs : List Loc) (cells slots pc : Nat) (ls : Array Slot) (v : Int32) (wf : va_W), zM D A s.heap wf H locs → wf = w' → v = rv → narrow rt (.int v) = .int v → cells ≤ mc → slots ≤ ms → decode cc pc = .ok (.ireturn, 1) → W p l e rm s m args below meth c H locs cells slots Q (F0 m pc ls [.int v])) →
      W p l e rm s m args below meth c s.heap [] 0 0 Q (F0 m 0 ls [])) : ZI l y ws rm D T w w' as rv mc ms :=
  z_ofI hy hw hlen (fun p e s m args below meth c ls A hA Z hr hlk hnm M hl => body p e s m args below meth c ls A _ Z hnm M hl (fun H locs cells slots pc ls v wf M9 h1 h2 h3 h4 h5 hd => z_zret Z hr h3 hlk hA M9 h1 h2 h4 h5 hd))
theorem z_inV {l : Launch} {y : MethodName} {ws ws' : List Cond} {rm : Room} {D : va_G} {T : Nat → ClassId} {w w' : va_W} {as : List Value} {mc ms : Nat} {cc : ByteArray} {maxL : Nat}
    (hy : plainName y.cls = true) (hw : ws = Cond.code y cc maxL none :: ws') (hlen : (lg_sl as).length ≤ maxL)
    (body : ∀ (p : Program) (e : Env) (s : State) (m : MethodId) (args : Array Value) (below : List Frame) (meth : Method) (c : Code) (ls : Array Slot) (A : Nat → Prop) (Q : State → Prop), zC p s m args c cc maxL y.cls ws D T A → meth.name = y.name → zM D A s.heap w s.heap [] → lv_has ls maxL (lv_args 0 as) →
      (∀ (H : Heap) (locs : List Loc) (cells slots pc : Nat) (ls : Array Slot) (wf : va_W), zM D A s.heap wf H locs → wf = w' → cells ≤ mc → slots ≤ ms → decode cc pc = .ok (.return_, 1) → W p l e rm s m args below meth c H locs cells slots Q (F0 m pc ls [])) →
      W p l e rm s m args below meth c s.heap [] 0 0 Q (F0 m 0 ls [])) : ZV l y ws rm D T w w' as mc ms :=
  z_ofV hy hw hlen (fun p e s m args below meth c ls A hA Z hr hlk hnm M hl => body p e s m args below meth c ls A _ Z hnm M hl (fun H locs cells slots pc ls wf M9 h1 h4 h5 hd => z_vret Z hr hlk hA M9 h1 h4 h5 hd))
theorem z_inS {l : Launch} {y : MethodName} {ws ws' : List Cond} {rm : Room} {as : List Value} {rv : Int32} {cc : ByteArray} {maxL : Nat} {rt : FieldType}
    (hy : plainName y.cls = true) (hw : ws = Cond.code y cc maxL (some rt) :: ws') (hlen : (lg_sl as).length ≤ maxL)
    (body : ∀ (p : Program) (e : Env) (s : State) (m : MethodId) (args : Array Value) (below : List Frame) (meth : Method) (c : Code) (ls : Array Slot) (Q : State → Prop), CallFix p m c cc maxL s args ws y.cls → lv_has ls maxL (lv_args 0 as) →
      (∀ (pc : Nat) (ls : Array Slot) (v : Int32), v = rv → narrow rt (.int v) = .int v → decode cc pc = .ok (.ireturn, 1) → W p l e rm s m args below meth c s.heap [] 0 0 Q (F0 m pc ls [.int v])) →
      W p l e rm s m args below meth c s.heap [] 0 0 Q (F0 m 0 ls [])) : ZS l y ws rm as rv :=
  z_ofS hy hw hlen (fun p e s m args below meth c ls C hr hlk hl => body p e s m args below meth c ls _ C hl (fun pc ls v h2 h3 hd => z_szret C hr h3 hlk h2 hd))
