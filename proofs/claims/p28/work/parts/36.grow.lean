/-! ===== calls over the whole list that answer an address; the growing of a list ===== -/
section ZGROW
variable {p : Program} {l : Launch} {e : Env} {R : Room} {s : State} {m : MethodId} {args : Array Value} {below : List Frame} {meth : Method} {c : Code} {H : Heap} {locs : List Loc} {cells slots : Nat} {Q : State → Prop}
variable {cc : ByteArray} {nL : Nat} {own C : String} {Ts : List Cond} {D : va_G} {T : Nat → ClassId} {A : Nat → Prop} {ws : va_W} {pc : Nat} {ls : Array Slot} {rest : List Value}
variable {y : MethodName} {bytes : ByteArray} {maxL index n mc ms b : Nat} {ret : Option FieldType} {wsy : List Cond} {rm : Room} {As : List Value} {P : State → Prop}
theorem z_callASr {S : Type} {wG : S → va_W} {r : S → Nat} (hk : zKp P) (hPs : P s) (Z : zC p s m args c cc nL own Ts D T A) (M : zM D A s.heap ws H locs) (hM : ZRP l y wsy rm P D T ws wG As r mc ms) (cw : CallB R s args own index y bytes maxL ret wsy rm mc ms n ∧ (Cond.static y).before args s = true)
    (hn : As.length = n) (hls : ls.size = nL) (hW : (rest.map fun v => v.category).sum ≤ 8) (hdg : decode cc pc = .ok (.invokestatic index, 3)) (hroom : cells + mc ≤ R.cells ∧ slots + ms ≤ R.slots) {st : List Value} (hst : st = As.reverse ++ rest)
    (kk : ∀ (u : S) (H1 : Heap) (locs1 : List Loc), zM D A s.heap (wG u) H1 locs1 → W p l e R s m args below meth c H1 locs1 (cells + mc) (slots + ms) Q (F0 m (pc + 3) ls (.ref (r u) :: rest))) :
    W p l e R s m args below meth c H locs cells slots Q (F0 m pc ls st) := by
  subst hst
  obtain ⟨S9, hK, hA⟩ := Z
  obtain ⟨hP, hD, hS⟩ := M
  have hF : ∀ q, zA (ws.map Prod.fst) H.size q → A q := by
    intro q h
    rcases h with h | h
    · obtain ⟨x, hx, rfl⟩ := List.mem_map.mp h
      obtain ⟨j, hj⟩ := List.getElem?_of_mem hx
      exact hD.2 j x hj
    · exact hA q (Nat.le_trans hS.1 h)
  refine va_callr (va_runS (As := As) (rest := rest) S9 (hM H.size) cw ⟨z_blindP hk, fun U hU hW => ⟨rfl, ⟨by rw [hU], by rw [hU]; exact hP, va_K.moved hW.alike hK, hD.weaken (fun _ _ _ _ => trivial)⟩, hk.2 _ _ hW hPs⟩⟩ rfl hn hls rfl (lv_room hW) hdg hroom) hS (fun q _ h => hF q h) hF (fun u ra t H1 locs1 ht hvm hw hB hz1 hk1 hS1 => ?_)
  obtain ⟨hr, hP1, hK1, hD1⟩ := hB
  subst hr
  rw [ht] at hP1
  exact kk u H1 locs1 ⟨hP1, hD1.weaken (fun _ q _ h => hF q.1 h), hS1⟩
theorem z_callAVr {S : Type} {wG : S → va_W} {r : S → Nat} (hk : zKp P) (hPs : P s) (Z : zC p s m args c cc nL own Ts D T A) (M : zM D A s.heap ws H locs) (hM : ZRP l y wsy rm P D T ws wG (.ref b :: As) r mc ms) (cw : CallW R s args own C index y bytes maxL ret wsy rm mc ms n)
    (hrecv : ∃ cell : Cell, H[b]? = some cell ∧ cell.vm.isStatics = false ∧ s.vm.findClass C = some cell.cls) (hn : As.length = n) (hls : ls.size = nL) (hW : (rest.map fun v => v.category).sum ≤ 8) (hdg : decode cc pc = .ok (.invokevirtual index, 3)) (hroom : cells + mc ≤ R.cells ∧ slots + ms ≤ R.slots) {st : List Value} (hst : st = As.reverse ++ .ref b :: rest)
    (kk : ∀ (u : S) (H1 : Heap) (locs1 : List Loc), zM D A s.heap (wG u) H1 locs1 → W p l e R s m args below meth c H1 locs1 (cells + mc) (slots + ms) Q (F0 m (pc + 3) ls (.ref (r u) :: rest))) :
    W p l e R s m args below meth c H locs cells slots Q (F0 m pc ls st) := by
  subst hst
  obtain ⟨S9, hK, hA⟩ := Z
  obtain ⟨hP, hD, hS⟩ := M
  have hF : ∀ q, zA (ws.map Prod.fst) H.size q → A q := by
    intro q h
    rcases h with h | h
    · obtain ⟨x, hx, rfl⟩ := List.mem_map.mp h
      obtain ⟨j, hj⟩ := List.getElem?_of_mem hx
      exact hD.2 j x hj
    · exact hA q (Nat.le_trans hS.1 h)
  refine va_callr (va_runV (As := As) (rest := rest) S9 (hM H.size) cw ⟨z_blindP hk, hrecv, fun U hU hW => ⟨rfl, ⟨by rw [hU], by rw [hU]; exact hP, va_K.moved hW.alike hK, hD.weaken (fun _ _ _ _ => trivial)⟩, hk.2 _ _ hW hPs⟩⟩ rfl hn hls rfl (lv_room hW) hdg hroom) hS (fun q _ h => hF q h) hF (fun u ra t H1 locs1 ht hvm hw hB hz1 hk1 hS1 => ?_)
  obtain ⟨hr, hP1, hK1, hD1⟩ := hB
  subst hr
  rw [ht] at hP1
  exact kk u H1 locs1 ⟨hP1, hD1.weaken (fun _ q _ h => hF q.1 h), hS1⟩
end ZGROW
set_option maxHeartbeats 4000000 in
theorem cl_copy2 (l : Launch) (D : va_G) (T : Nat → ClassId) (r n N ci mi : Nat) (f : Nat → Option Nat) (es : va_W) (q9 : vw_C) (hc : vwCl[ci]? = some q9) (hn : n ≤ N) (hN : N ≤ 60000) (he : ∀ i y : Nat, i < n → f i = some y → ∃ (j : Nat) (vs : List Value), es[j]? = some (y, .inr (ci, vs))) :
    ZRP l yJ7_copyOf_1904c wsJ7_copyOf_1904c (zrmc 2 63 1 N) (zGr q9.1 mi) D T (S := Nat) ((r, .inl (T 3, n, qa f)) :: es) (fun q => ((r, .inl (T 3, n, qa f)) :: es) ++ [(q, .inl (T 3, N, qa (va_cpy f (fun _ => none) 0 0 n)))]) [.ref r, .int (nI N)] (fun q => q) 1 N := by
  refine z_inRP (cc := cJ7_copyOf_1904c) (maxL := 2) (rt := .array (.object "java/lang/Object")) (by decide +kernel) rfl (Nat.le_of_ble_eq_true rfl) (Or.inr ⟨_, rfl⟩) ?_
  intro p e s m args below meth c9 ls9 A Q Z hGr hnm M hl9 hret
  have Z : zC p s m args c9 cJ7_copyOf_1904c 2 RJ7 wsJ7_copyOf_1904c D T A := Z
  have hx := Z.1.1
  have hb := Z.1.2.1
  have hts := Z.1.2.2.2.2
  have hl9 : lv_has ls9 2 [(0, .ref r), (1, .int (nI N))] := hl9
  refine lv_aload_n hx hb dJ7_copyOf_1904c_0 rfl (lv_at hl9 0 rfl) ?_
  refine lv_iload_n hx hb dJ7_copyOf_1904c_1 rfl (lv_at hl9 1 rfl) ?_
  refine lv_aload_n hx hb dJ7_copyOf_1904c_2 rfl (lv_at hl9 0 rfl) ?_
  refine va_getC (R := zrmc 2 63 1 N) (rest := [.int (nI N), .ref r]) (C := "[Ljava/lang/Object;") hx hb (Z.1.2.2.1.trans hl9.1.symm) Z.1.2.2.2.1 (hts (.methodLink RJ7 86 ⟨"java/lang/Object", "getClass", "()Ljava/lang/Class;"⟩) (by decide +kernel)) (va_Dc.use hGr.2.2.1) (hts (.selects "[Ljava/lang/Object;" ⟨"java/lang/Object", "getClass", "()Ljava/lang/Class;"⟩ ⟨"java/lang/Object", "getClass", "()Ljava/lang/Class;"⟩) (by decide +kernel)) (hts (.instanceMethod ⟨"java/lang/Object", "getClass", "()Ljava/lang/Class;"⟩) (by decide +kernel)) (hts (.native ⟨"java/lang/Object", "getClass", "()Ljava/lang/Class;"⟩) (by decide +kernel)) hGr.2.1 ⟨vp_cell (T 3) (n, qa f), M.1 0 _ rfl, rfl, va_nmO (Z.2.1.2 3 (T 3, .object "java/lang/Object") rfl).2 (by decide +kernel)⟩ (Nat.le_of_ble_eq_true rfl) (Nat.le_of_ble_eq_true rfl) dJ7_copyOf_1904c_3 ?_
  refine z_callASr (As := [.ref r, .int (nI N), .ref mi]) (rest := []) (zGr_k _ _) hGr Z M (cl_copy l D T r n N ci mi f es q9 hc hn hN he) (va_cwS 3 hts gJ7_copyOf_1904c_J7_copyOf_6403c rfl rfl rfl (by decide +kernel) ⟨Nat.le_of_ble_eq_true rfl, Nat.le_of_ble_eq_true rfl⟩) rfl hl9.1 (Nat.le_of_ble_eq_true rfl) dJ7_copyOf_1904c_6 ⟨Nat.le_refl 1, Nat.le_of_eq (Nat.zero_add N)⟩ rfl (fun q H1 locs1 M => ?_)
  exact hret _ _ _ _ _ ls9 q _ q M rfl rfl (Nat.le_refl _) (Nat.le_of_eq (Nat.zero_add N)) dJ7_copyOf_1904c_9
