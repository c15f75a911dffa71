/-! ===== an element more, the list is full: the public one ===== -/
section ZFULL
variable {p : Program} {l : Launch} {e : Env} {R : Room} {s : State} {m : MethodId} {args : Array Value} {below : List Frame} {meth : Method} {c : Code} {H : Heap} {locs : List Loc} {cells slots : Nat} {Q : State → Prop}
variable {cc : ByteArray} {nL : Nat} {own C : String} {Ts : List Cond} {D : va_G} {T : Nat → ClassId} {A : Nat → Prop} {ws : va_W} {pc : Nat} {ls : Array Slot} {rest : List Value}
variable {y : MethodName} {bytes : ByteArray} {maxL index n mc ms b : Nat} {ret : Option FieldType} {wsy : List Cond} {rm : Room} {As : List Value} {P : State → Prop}
theorem z_callAVv {S : Type} {wG : S → va_W} (hk : zKp P) (hPs : P s) (Z : zC p s m args c cc nL own Ts D T A) (M : zM D A s.heap ws H locs) (hM : ZVP l y wsy rm P D T ws wG (.ref b :: As) mc ms) (cw : CallW R s args own C index y bytes maxL ret wsy rm mc ms n)
    (hrecv : ∃ cell : Cell, H[b]? = some cell ∧ cell.vm.isStatics = false ∧ s.vm.findClass C = some cell.cls) (hn : As.length = n) (hls : ls.size = nL) (hW : (rest.map fun v => v.category).sum ≤ 8) (hdg : decode cc pc = .ok (.invokevirtual index, 3)) (hroom : cells + mc ≤ R.cells ∧ slots + ms ≤ R.slots) {st : List Value} (hst : st = As.reverse ++ .ref b :: rest)
    (kk : ∀ (u : S) (H1 : Heap) (locs1 : List Loc), zM D A s.heap (wG u) H1 locs1 → W p l e R s m args below meth c H1 locs1 (cells + mc) (slots + ms) Q (F0 m (pc + 3) ls rest)) :
    W p l e R s m args below meth c H locs cells slots Q (F0 m pc ls st) := by
  subst hst
  obtain ⟨S9, hK, hA⟩ := Z
  obtain ⟨hP, hD, hS⟩ := M
  have hF : ∀ q, zA (ws.map Prod.fst) H.size q → A q := by
    intro q h
    rcases h with h | h
    · obtain ⟨x, hx, rfl⟩ := List.mem_map.mp h
      obtain ⟨j, hj⟩ := List.getElem?_of_mem hx
      exact hD.2 j x hj
    · exact hA q (Nat.le_trans hS.1 h)
  refine va_callv (va_runV (As := As) (rest := rest) S9 (hM H.size) cw ⟨z_blindP hk, hrecv, fun U hU hW => ⟨rfl, ⟨by rw [hU], by rw [hU]; exact hP, va_K.moved hW.alike hK, hD.weaken (fun _ _ _ _ => trivial)⟩, hk.2 _ _ hW hPs⟩⟩ rfl hn hls rfl (lv_room hW) hdg hroom) hS (fun q _ h => hF q h) hF (fun u t H1 locs1 ht hvm hw hB hz1 hk1 hS1 => ?_)
  obtain ⟨hP1, hK1, hD1⟩ := hB
  rw [ht] at hP1
  exact kk u H1 locs1 ⟨hP1, hD1.weaken (fun _ q _ h => hF q.1 h), hS1⟩
end ZFULL
set_option maxHeartbeats 4000000 in
theorem cl_addf (l : Launch) (D : va_G) (T : Nat → ClassId) (L r n x ci mi j0 : Nat) (k : Int32) (f : Nat → Option Nat) (es : va_W) (vs : List Value) (q9 : vw_C) (hc : vwCl[ci]? = some q9) (h2 : 2 ≤ n) (hn : n ≤ 40000) (hj : es[j0]? = some (x, .inr (ci, vs))) (he : ∀ i y : Nat, i < n → f i = some y → ∃ (j : Nat) (vs : List Value), es[j]? = some (y, .inr (ci, vs))) :
    ZIP l yJx4a65c_add_9ea2d wsJx4a65c_add_9ea2d (zrmc 6 180 1 (n + n / 2)) (zGr q9.1 mi) D T (S := Nat) (grW L r n T k (nI n) f es) (fun q => grW2 L r n q (n + n / 2) T (k + 1) (nI (n + 1)) f (va_up (va_cpy f (fun _ => none) 0 0 n) n (some x)) es) [.ref L, .ref x] 1 1 (n + n / 2) := by
  refine z_inIP (cc := cJx4a65c_add_9ea2d) (maxL := 2) (rt := .boolean) (by decide +kernel) rfl (Nat.le_of_ble_eq_true rfl) ?_
  intro p e s m args below meth c9 ls9 A Q Z hGr hnm M hl9 hret
  have Z : zC p s m args c9 cJx4a65c_add_9ea2d 2 RJx4a65c wsJx4a65c_add_9ea2d D T A := Z
  have hx := Z.1.1
  have hb := Z.1.2.1
  have hts := Z.1.2.2.2.2
  have hinL : ∀ w ∈ wsJx4a65c0, w ∈ wsJx4a65c_add_9ea2d := by decide +kernel
  have L9 := hts (.fieldLink RJx4a65c 9 "java/util/ArrayList" "elementData" "[Ljava/lang/Object;") (by decide +kernel)
  have L48 := hts (.fieldLink RJx4a65c 48 "java/util/ArrayList" "size" "I") (by decide +kernel)
  have L63 := hts (.fieldLink RJx4a65c 63 "java/util/ArrayList" "modCount" "I") (by decide +kernel)
  have S63 := hts (.sameField "java/util/ArrayList" "java/util/AbstractList" "modCount" "I") (by decide +kernel)
  have hl9 : lv_has ls9 2 [(0, .ref L), (1, .ref x)] := hl9
  refine lv_aload_n hx hb dJx4a65c_add_9ea2d_0 rfl (lv_at hl9 0 rfl) ?_
  refine lv_dup hx hb dJx4a65c_add_9ea2d_1 rfl ?_
  refine va_get hx hb hts hinL Z.1.2.2.2.1 Z.2.1 M.1 1 rfl rfl 0 (by decide) L63 (fun y9 h9 => u_same S63 y9 h9) (v := .int k) rfl dJx4a65c_add_9ea2d_2 ?_
  refine lv_iconst (v := 1) hx hb dJx4a65c_add_9ea2d_5 (by decide) ?_
  refine lv_iadd hx hb dJx4a65c_add_9ea2d_6 ?_
  refine va_put hx hb hts hinL tyJx4a65c tyJx4a65c_ok nmJx4a65c Z.1.2.2.2.1 Z.2.1 M.1 M.2.1 M.2.2 1 rfl rfl 0 (by decide) L63 (fun y9 h9 => u_same S63 y9 h9) rfl (ty := .int) (by decide +kernel) rfl rfl (Nat.le_of_ble_eq_true rfl) dJx4a65c_add_9ea2d_7 (fun H1 locs1 hP1 hD1 hS1 => ?_)
  have M : zM D A s.heap (grW L r n T (k + 1) (nI n) f es) H1 locs1 := ⟨hP1, hD1, hS1⟩
  refine lv_aload_n hx hb dJx4a65c_add_9ea2d_10 rfl (lv_at hl9 0 rfl) ?_
  refine lv_aload_n hx hb dJx4a65c_add_9ea2d_11 rfl (lv_at hl9 1 rfl) ?_
  refine lv_aload_n hx hb dJx4a65c_add_9ea2d_12 rfl (lv_at hl9 0 rfl) ?_
  refine z_getf Z M hinL 1 rfl rfl 1 (by decide) L9 rfl (v := .ref r) rfl dJx4a65c_add_9ea2d_13 ?_
  refine lv_aload_n hx hb dJx4a65c_add_9ea2d_16 rfl (lv_at hl9 0 rfl) ?_
  refine z_getf Z M hinL 1 rfl rfl 2 (by decide) L48 rfl (v := .int (nI n)) rfl dJx4a65c_add_9ea2d_17 ?_
  refine z_callAVv (As := [.ref x, .ref r, .int (nI n)]) (rest := []) (zGr_k _ _) hGr Z M (cl_add3f l D T L r n x ci mi j0 (k + 1) f es vs q9 hc h2 hn hj he) (cwV 3 hts gJx4a65c_add_9ea2d_Jx4a65c_add_72be8 rfl rfl rfl (by decide +kernel) ⟨Nat.le_of_ble_eq_true rfl, Nat.le_of_ble_eq_true rfl⟩) (va_recv Z.2.1 M.1 (ci := 0) (q0 := 1) rfl rfl) rfl hl9.1 (Nat.le_of_ble_eq_true rfl) dJx4a65c_add_9ea2d_20 ⟨Nat.le_refl 1, Nat.le_of_eq (Nat.zero_add _)⟩ rfl (fun q H2 locs2 M => ?_)
  refine lv_iconst (v := 1) hx hb dJx4a65c_add_9ea2d_23 (by decide) ?_
  exact hret _ _ _ _ _ ls9 _ _ q M rfl rfl rfl (Nat.le_refl _) (Nat.le_of_eq (Nat.zero_add _)) dJx4a65c_add_9ea2d_24
