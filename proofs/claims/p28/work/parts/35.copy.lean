/-! ===== Arrays.copyOf of objects ===== -/
def ZRP (l : Launch) (y : MethodName) (ws : List Cond) (rm : Room) (P : State → Prop) (D : va_G) (T : Nat → ClassId) {S : Type} (w : va_W) (w' : S → va_W) (as : List Value) (r : S → Nat) (mc ms : Nat) : Prop := ∀ sz : Nat, Met l y ws rm (va_Pc as (zPreP P D T w sz)) (zQR D T w w' r sz) mc ms (zA (w.map Prod.fst) sz)
theorem z_inRP {l : Launch} {y : MethodName} {ws ws' : List Cond} {rm : Room} {P : State → Prop} {D : va_G} {T : Nat → ClassId} {S : Type} {w : va_W} {w' : S → va_W} {as : List Value} {r : S → Nat} {mc ms : Nat} {cc : ByteArray} {maxL : Nat} {rt : FieldType}
    (hy : plainName y.cls = true) (hw : ws = Cond.code y cc maxL (some rt) :: ws') (hlen : (lg_sl as).length ≤ maxL) (hrt : (∃ n, rt = .object n) ∨ ∃ t, rt = .array t)
    (body : ∀ (p : Program) (e : Env) (s : State) (m : MethodId) (args : Array Value) (below : List Frame) (meth : Method) (c : Code) (ls : Array Slot) (A : Nat → Prop) (Q : State → Prop), zC p s m args c cc maxL y.cls ws D T A → P s → meth.name = y.name → zM D A s.heap w s.heap [] → lv_has ls maxL (lv_args 0 as) →
      (∀ (H : Heap) (locs : List Loc) (cells slots pc : Nat) (ls : Array Slot) (v : Nat) (wf : va_W) (u : S), zM D A s.heap wf H locs → wf = w' u → v = r u → cells ≤ mc → slots ≤ ms → decode cc pc = .ok (.areturn, 1) → W p l e rm s m args below meth c H locs cells slots Q (F0 m pc ls [.ref v])) →
      W p l e rm s m args below meth c s.heap [] 0 0 Q (F0 m 0 ls [])) : ZRP l y ws rm P D T w w' as r mc ms := by
  intro sz
  refine Met.ofW (cc := cc) (maxL := maxL) (ret := some rt) hy hw ?_
  intro p e s m args below meth c s₁ B hml hv
  obtain ⟨rfl, ⟨hsz, hP, hK, hD0⟩, hN⟩ := hv
  subst hsz
  rw [lg_entry_eq]
  refine body p e s m _ below meth c _ _ _ ⟨⟨B.exec, B.bytes, hml, findClass_of_methodNamed B.named, atoms_spec (ws := ws) B.pre⟩, hK, fun q h => Or.inr h⟩ hN (name_of_methodNamed B.named B.method).1 ⟨hP, zA_self hD0, va_S.rf⟩ (lv_entry as hlen) ?_
  intro H locs cells slots pc ls v wf u M h1 h2 h4 h5 hdg
  subst h1; subst h2
  obtain ⟨hP, hD, hS⟩ := M
  refine W.widen h4 h5 ?_
  exact W.aret (v := .ref (r u)) B.exec B.bytes B.returns hrt (Or.inr ⟨_, rfl⟩) (fun t ht hW => ⟨⟨u, r u, rfl, trivial, rfl, by rw [ht]; exact hP, va_K.moved hW.alike hK, hD⟩, hS.F ht⟩) hS.2.2 hdg B.notSynchronized
/-- what the growing of a list asks of the tables -/
def zGr (C : String) (mi : Nat) (U : State) : Prop := va_AO "java/lang/Object" U ∧ va_Mi "[Ljava/lang/Object;" mi U ∧ va_Dc U ∧ zCa C U
theorem zGr_k (C : String) (mi : Nat) : zKp (zGr C mi) := ⟨fun u U h hN => ⟨va_AO.moved (h ▸ Vm.Alike.refl u.vm) hN.1, va_Mi.moved (h ▸ Vm.Alike.refl u.vm) hN.2.1, va_Dc.moved (h ▸ Vm.Alike.refl u.vm) hN.2.2.1, (zCa_k C).1 u U h hN.2.2.2⟩, fun s U hW hN => ⟨va_AO.moved hW.alike hN.1, va_Mi.moved hW.alike hN.2.1, va_Dc.moved hW.alike hN.2.2.1, (zCa_k C).2 s U hW hN.2.2.2⟩⟩
abbrev qa (f : Nat → Option Nat) : (Nat → Int32) ⊕ (Nat → Int64) ⊕ (Nat → UInt32) ⊕ (Nat → UInt64) ⊕ (Nat → Option Nat) := .inr (.inr (.inr (.inr f)))
set_option maxHeartbeats 4000000 in
theorem cl_copy (l : Launch) (D : va_G) (T : Nat → ClassId) (r n N ci mi : Nat) (f : Nat → Option Nat) (es : va_W) (q9 : vw_C) (hc : vwCl[ci]? = some q9) (hn : n ≤ N) (hN : N ≤ 60000) (he : ∀ i y : Nat, i < n → f i = some y → ∃ (j : Nat) (vs : List Value), es[j]? = some (y, .inr (ci, vs))) :
    ZRP l yJ7_copyOf_6403c wsJ7_copyOf_6403c (zrmc 1 40 1 N) (zGr q9.1 mi) D T (S := Nat) ((r, .inl (T 3, n, qa f)) :: es) (fun q => ((r, .inl (T 3, n, qa f)) :: es) ++ [(q, .inl (T 3, N, qa (va_cpy f (fun _ => none) 0 0 n)))]) [.ref r, .int (nI N), .ref mi] (fun q => q) 1 N := by
  refine z_inRP (cc := cJ7_copyOf_6403c) (maxL := 4) (rt := .array (.object "java/lang/Object")) (by decide +kernel) rfl (Nat.le_of_ble_eq_true rfl) (Or.inr ⟨_, rfl⟩) ?_
  intro p e s m args below meth c9 ls9 A Q Z hGr hnm M hl9 hret
  have Z : zC p s m args c9 cJ7_copyOf_6403c 4 RJ7 wsJ7_copyOf_6403c D T A := Z
  have hx := Z.1.1
  have hb := Z.1.2.1
  have hts := Z.1.2.2.2.2
  have hl9 : lv_has ls9 4 [(0, .ref r), (1, .int (nI N)), (2, .ref mi)] := hl9
  refine lv_aload_n hx hb dJ7_copyOf_6403c_0 rfl (lv_at hl9 2 rfl) ?_
  refine va_ldcM hx hb Z.1.2.2.2.1 (hts (.classLink RJ7 110 "[Ljava/lang/Object;") (by decide +kernel)) hGr.2.1 dJ7_copyOf_6403c_1 ?_
  refine lv_acmp_ne (rx := some mi) (ry := some mi) (tgt := 13) hx hb dJ7_copyOf_6403c_3 (by decide) (fun h => absurd rfl h) (fun _ => ?_)
  refine lv_iload_n hx hb dJ7_copyOf_6403c_6 rfl (lv_at hl9 1 rfl) ?_
  obtain ⟨hP, hD, hS⟩ := M
  refine va_newq (C := "java/lang/Object") hx hb Z.1.2.2.2.1 (hts (.classLink RJ7 2 "java/lang/Object") (by decide +kernel)) hGr.1 Z.2.1 hP hD hS Z.2.2 (n := nI N) (N' := N) (fun h => nI_pos (by omega) h) (nI_clamp (by omega)) (by omega) (Nat.le_refl 1) (Nat.le_of_eq (Nat.zero_add N)) dJ7_copyOf_6403c_7 (fun q cA H1 hK1 hP1 hD1 hS1 => ?_)
  obtain ⟨-, -, -, -, -, h1⟩ := (hK1.2 5 (cA, .object "java/lang/Object") rfl).2
  obtain ⟨-, -, -, -, -, h2⟩ := (Z.2.1.2 3 (T 3, .object "java/lang/Object") rfl).2
  have e9 : cA = T 3 := Option.some.inj (h1.symm.trans h2)
  subst e9
  have M : zM D A s.heap (((r, .inl (T 3, n, qa f)) :: es) ++ [(q, .inl (T 3, N, qa fun _ => none))]) H1 _ := ⟨hP1, hD1, hS1⟩
  refine lv_goto (tgt := 24) hx hb dJ7_copyOf_6403c_10 (by decide) ?_
  refine lv_astore_n (lv' := [(3, .ref q), (0, .ref r), (1, .int (nI N)), (2, .ref mi)]) hx hb dJ7_copyOf_6403c_24 rfl hl9 (by decide) rfl (fun ls9 hl9 => ?_)
  refine lv_aload_n hx hb dJ7_copyOf_6403c_25 rfl (lv_at hl9 1 rfl) ?_
  refine lv_iconst (v := 0) hx hb dJ7_copyOf_6403c_26 (by decide) ?_
  refine lv_aload_n hx hb dJ7_copyOf_6403c_27 rfl (lv_at hl9 0 rfl) ?_
  refine lv_iconst (v := 0) hx hb dJ7_copyOf_6403c_28 (by decide) ?_
  refine lv_aload_n hx hb dJ7_copyOf_6403c_29 rfl (lv_at hl9 1 rfl) ?_
  refine va_alen (x := (n, qa f)) hx hb Z.2.1 M.1 0 3 rfl rfl (v := nI n) rfl dJ7_copyOf_6403c_30 ?_
  refine lv_iload_n hx hb dJ7_copyOf_6403c_31 rfl (lv_at hl9 2 rfl) ?_
  refine va_mmin (R := zrmc 1 40 1 N) (rest := [.int 0, .ref q, .int 0, .ref r]) hx hb (Z.1.2.2.1.trans hl9.1.symm) Z.1.2.2.2.1 (hts (.methodLink RJ7 304 Lib.Math.min.name) (by decide +kernel)) (hts (.static Lib.Math.min.name) (by decide +kernel)) (hts (.initialized "java/lang/Math") (by decide +kernel)) (hts (.code Lib.Math.min.name Lib.Math.min.code 2 (some .int)) (by decide +kernel)) (Nat.le_of_ble_eq_true rfl) (Nat.le_of_ble_eq_true rfl) (Nat.le_refl 1) (Nat.le_of_eq (Nat.zero_add N)) dJ7_copyOf_6403c_32 ?_
  refine zn_top (y := nI n) (if_neg (fun h => absurd ((nI_ltI (by omega) (by omega)).mp h) (by omega))) ?_
  have hq : (((r, .inl (T 3, n, qa f)) :: es) ++ [(q, .inl (T 3, N, qa fun _ => none))] : va_W)[es.length + 1]? = some (q, .inl (T 3, N, qa fun _ => none)) := by
    rw [List.getElem?_append_right (by simp)]
    simp
  refine va_copyq (C := q9.1) hx hb (Z.1.2.2.1.trans hl9.1.symm) Z.1.2.2.2.1 (hts (.methodLink RJ7 150 arraycopyName) (by decide +kernel)) (hts (.native arraycopyName) (by decide +kernel)) (hts (.static arraycopyName) (by decide +kernel)) (hts (.initialized "java/lang/System") (by decide +kernel)) Z.2.1 M.1 M.2.1 M.2.2 0 (es.length + 1) 3 3 (E0 := "java/lang/Object") (E1 := "java/lang/Object") (f := f) (g := fun _ => none) rfl hq rfl rfl (sp := 0) (dp := 0) (n := nI n) (by decide) (by decide) (fun h => nI_pos (by omega) h) (by rw [nI_clamp (by omega)]; show 0 + n ≤ n; omega) (by rw [nI_clamp (by omega)]; show 0 + n ≤ N; omega) (fun i hi y hy => ?_) (fun comp c0 f1 f2 => ?_) (Nat.le_refl 1) (Nat.le_of_ble_eq_true rfl) dJ7_copyOf_6403c_35 (fun H2 locs2 hP2 hD2 hS2 => ?_)
  · rw [nI_clamp (by omega)] at hi
    have hy : f (0 + i) = some y := hy
    rw [Nat.zero_add] at hy
    obtain ⟨j, vs, hj⟩ := he i y hi hy
    refine va_recv Z.2.1 M.1 (ci := ci) (q0 := j + 1) hc (fs := vs) ?_
    have hlt := (List.getElem?_eq_some_iff.mp hj).1
    rw [List.getElem?_append_left (by simp; omega)]
    exact hj
  · obtain ⟨c1, t1, g1, g2, g3⟩ := Cond.castable_spec (va_Nw.use (A := args) rfl hGr.2.2.2)
    cases f1.symm.trans g2
    cases f2.symm.trans g1
    exact g3
  rw [nI_clamp (by omega)] at hP2 hD2
  have hw : (((r, .inl (T 3, n, qa f)) :: es) ++ [(q, .inl (T 3, N, qa fun _ => none))] : va_W).set (es.length + 1) (q, .inl (T 3, N, qa (va_cpy f (fun _ => none) 0 0 n))) = ((r, .inl (T 3, n, qa f)) :: es) ++ [(q, .inl (T 3, N, qa (va_cpy f (fun _ => none) 0 0 n)))] := by
    rw [List.set_append_right _ _ (by simp)]
    simp
  have M : zM D A s.heap (((r, .inl (T 3, n, qa f)) :: es) ++ [(q, .inl (T 3, N, qa (va_cpy f (fun _ => none) 0 0 n)))]) H2 locs2 := by
    rw [← hw]
    exact ⟨hP2, hD2, hS2⟩
  refine lv_aload_n hx hb dJ7_copyOf_6403c_38 rfl (lv_at hl9 0 rfl) ?_
  exact hret _ _ _ _ _ ls9 q _ q M rfl rfl (Nat.le_refl _) (Nat.le_of_eq (Nat.zero_add N)) dJ7_copyOf_6403c_39
