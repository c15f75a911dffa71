/-! ===== the static empty array: its place and its length ===== -/
def zE2 (ea : Nat) (A : Nat → Prop) (U : State) (H : Heap) : Prop := zE ea A U H ∧ va_T (.object "java/lang/Object") ea 0 (fun _ => .null) A U H
theorem zE2_k (ea : Nat) : zHp (zE2 ea) := ⟨fun A u U H hvm h => ⟨(zE_k ea).1 A u U H hvm h.1, va_T.moved (zAl hvm) h.2⟩, fun A U H H1 hq h => ⟨(zE_k ea).2.1 A U H H1 hq h.1, va_T.kept h.2 hq⟩, fun A B U H hAB h => ⟨(zE_k ea).2.2 A B U H hAB h.1, va_T.narrow h.2 hAB⟩⟩
/-- facts on tables are facts of this kind -/
theorem zHp_tab {P : State → Prop} (h : ∀ u U : State, (u.vm = U.vm ∨ u.WarmedH U.vm) → P u → P U) : zHp (fun _ U _ => P U) := ⟨fun _ u U _ hvm hP => h u U hvm hP, fun _ _ _ _ _ hP => hP, fun _ _ _ _ _ hP => hP⟩
theorem zHp_and {P1 P2 : (Nat → Prop) → State → Heap → Prop} (h1 : zHp P1) (h2 : zHp P2) : zHp (fun A U H => P1 A U H ∧ P2 A U H) := ⟨fun A u U H hvm h => ⟨h1.1 A u U H hvm h.1, h2.1 A u U H hvm h.2⟩, fun A U H H1 hq h => ⟨h1.2.1 A U H H1 hq h.1, h2.2.1 A U H H1 hq h.2⟩, fun A B U H hAB h => ⟨h1.2.2 A B U H hAB h.1, h2.2.2 A B U H hAB h.2⟩⟩
def ZRH (l : Launch) (y : MethodName) (ws : List Cond) (rm : Room) (P : (Nat → Prop) → State → Heap → Prop) (D : va_G) (T : Nat → ClassId) {S : Type} (w : va_W) (w' : S → va_W) (as : List Value) (r : S → Nat) (mc ms : Nat) : Prop := ∀ sz : Nat, Met l y ws rm (va_Pc as (zPreH P D T w sz)) (zQR D T w w' r sz) mc ms (zA (w.map Prod.fst) sz)
theorem z_inRH {l : Launch} {y : MethodName} {ws ws' : List Cond} {rm : Room} {P : (Nat → Prop) → State → Heap → Prop} {D : va_G} {T : Nat → ClassId} {S : Type} {w : va_W} {w' : S → va_W} {as : List Value} {r : S → Nat} {mc ms : Nat} {cc : ByteArray} {maxL : Nat} {rt : FieldType}
    (hy : plainName y.cls = true) (hw : ws = Cond.code y cc maxL (some rt) :: ws') (hlen : (lg_sl as).length ≤ maxL) (hrt : (∃ n, rt = .object n) ∨ ∃ t, rt = .array t)
    (body : ∀ (p : Program) (e : Env) (s : State) (m : MethodId) (args : Array Value) (below : List Frame) (meth : Method) (c : Code) (ls : Array Slot) (A : Nat → Prop) (Q : State → Prop), zC p s m args c cc maxL y.cls ws D T A → P A s s.heap → meth.name = y.name → zM D A s.heap w s.heap [] → lv_has ls maxL (lv_args 0 as) →
      (∀ (H : Heap) (locs : List Loc) (cells slots pc : Nat) (ls : Array Slot) (v : Nat) (wf : va_W) (u : S), zM D A s.heap wf H locs → wf = w' u → v = r u → cells ≤ mc → slots ≤ ms → decode cc pc = .ok (.areturn, 1) → W p l e rm s m args below meth c H locs cells slots Q (F0 m pc ls [.ref v])) →
      W p l e rm s m args below meth c s.heap [] 0 0 Q (F0 m 0 ls [])) : ZRH l y ws rm P D T w w' as r mc ms := by
  intro sz
  refine Met.ofW (cc := cc) (maxL := maxL) (ret := some rt) hy hw ?_
  intro p e s m args below meth c s₁ B hml hv
  obtain ⟨rfl, ⟨hsz, hP, hK, hD0⟩, hN⟩ := hv
  subst hsz
  rw [lg_entry_eq]
  refine body p e s m _ below meth c _ _ _ ⟨⟨B.exec, B.bytes, hml, findClass_of_methodNamed B.named, atoms_spec (ws := ws) B.pre⟩, hK, fun q h => Or.inr h⟩ hN (name_of_methodNamed B.named B.method).1 ⟨hP, zA_self hD0, va_S.rf⟩ (lv_entry as hlen) ?_
  intro H locs cells slots pc ls v wf u M h1 h2 h4 h5 hdg
  subst h1; subst h2
  obtain ⟨hP, hD, hS⟩ := M
  refine W.widen h4 h5 ?_
  exact W.aret (v := .ref (r u)) B.exec B.bytes B.returns hrt (Or.inr ⟨_, rfl⟩) (fun t ht hW => ⟨⟨u, r u, rfl, trivial, rfl, by rw [ht]; exact hP, va_K.moved hW.alike hK, hD⟩, hS.F ht⟩) hS.2.2 hdg B.notSynchronized
