/-! ===== calls at places under a P over the heap that answer an address ===== -/
section ZVRH
variable {p : Program} {l : Launch} {e : Env} {R : Room} {s : State} {m : MethodId} {args : Array Value} {below : List Frame} {meth : Method} {c : Code} {H : Heap} {locs : List Loc} {cells slots : Nat} {Q : State → Prop}
variable {cc : ByteArray} {nL : Nat} {own C : String} {Ts : List Cond} {D : va_G} {T : Nat → ClassId} {A : Nat → Prop} {ws : va_W} {pc : Nat} {ls : Array Slot} {rest : List Value}
variable {y : MethodName} {bytes : ByteArray} {maxL index n mc ms b : Nat} {ret : Option FieldType} {wsy : List Cond} {rm : Room} {wc : va_W} {As : List Value} {P : (Nat → Prop) → State → Heap → Prop}
theorem z_callVrH {S : Type} {wG : S → va_W} {r : S → Nat} (hk : zHp P) (hPs : P A s s.heap) (Z : zC p s m args c cc nL own Ts D T A) (M : zM D A s.heap ws H locs) (hM : ZRH l y wsy rm P D T wc wG (.ref b :: As) r mc ms) (cw : CallW R s args own C index y bytes maxL ret wsy rm mc ms n)
    (is : List Nat) (hC : is.map (fun i => ws[i]?) = wc.map some) (hnd : va_nd is = true) (hf : ∀ (u : S) (j : Nat), j < wc.length → ((wG u).map Prod.fst)[j]? = (wc.map Prod.fst)[j]?) (hlen : ∀ u : S, wc.length ≤ (wG u).length)
    (hrecv : ∃ cell : Cell, H[b]? = some cell ∧ cell.vm.isStatics = false ∧ s.vm.findClass C = some cell.cls) (hn : As.length = n) (hls : ls.size = nL) (hW : (rest.map fun v => v.category).sum ≤ 8) (hdg : decode cc pc = .ok (.invokevirtual index, 3)) (hroom : cells + mc ≤ R.cells ∧ slots + ms ≤ R.slots) {st : List Value} (hst : st = As.reverse ++ .ref b :: rest)
    (kk : ∀ (u : S) (H1 : Heap) (locs1 : List Loc), zM D A s.heap (z_put ws is (wG u)) H1 locs1 → W p l e R s m args below meth c H1 locs1 (cells + mc) (slots + ms) Q (F0 m (pc + 3) ls (.ref (r u) :: rest))) :
    W p l e R s m args below meth c H locs cells slots Q (F0 m pc ls st) := by
  subst hst
  obtain ⟨S9, hK, hA⟩ := Z
  obtain ⟨hP, hD, hS⟩ := M
  have hF := z_free hD hS hA is hC
  have hPc : va_P D vwCl wc H := fun k q hq => by
    obtain ⟨i, -, h2⟩ := z_in hC hq
    exact hP i q h2
  have hDc : va_D (fun _ => True) wc := ⟨fun i j x y hx hy hxy => by
    obtain ⟨a, h1, h2⟩ := z_in hC hx
    obtain ⟨b, g1, g2⟩ := z_in hC hy
    have e := hD.1 a b x y h2 g2 hxy
    subst e
    exact va_nd_inj is hnd i j a h1 g1, fun _ _ _ => trivial⟩
  have hPH : P (zA (wc.map Prod.fst) H.size) s H := hk.2.2 A _ s H hF (hk.2.1 A s s.heap H hS.2.1 hPs)
  refine va_callr (va_runV (As := As) (rest := rest) S9 (hM H.size) cw ⟨z_blindH hk, hrecv, fun U hU hW => ⟨rfl, ⟨by rw [hU], by rw [hU]; exact hPc, va_K.moved hW.alike hK, hDc⟩, by rw [hU]; exact hk.1 _ s U H (Or.inr hW) hPH⟩⟩ rfl hn hls rfl (lv_room hW) hdg hroom) hS (fun q _ h => hF q h) hF (fun u ra t H1 locs1 ht hvm hw hB hz1 hk1 hS1 => ?_)
  obtain ⟨hr, hP1, hK1, hD1⟩ := hB
  subst hr
  rw [ht] at hP1
  obtain ⟨hP2, hD2⟩ := z_join hP hD is hC hnd hk1 hF hP1 hD1 (hf u) (hlen u)
  exact kk u H1 locs1 ⟨hP2, hD2, hS1⟩
end ZVRH
theorem le2_f {L N : Nat} {T : Nat → ClassId} {x : Value} {k k2 c0 c2 : Int32} {f : Nat → Option Nat} (u j : Nat) (hj : j < (leW L x k c0).length) : ((leW2 L u N T k2 c2 f).map Prod.fst)[j]? = ((leW L x k c0).map Prod.fst)[j]? := by
  have hj : j < 1 := hj
  have e : j = 0 := by omega
  subst e
  rfl
set_option maxHeartbeats 4000000 in
theorem cl_growe2 (l : Launch) (D : va_G) (T : Nat → ClassId) (L ea : Nat) (k : Int32) (C : String) :
    ZRH l yJx4a65c_grow_d5877 wsJx4a65c_grow_d5877 (zrmc 2 70 1 10) (zF C ea) D T (S := Nat) (leW L (.ref ea) k 0) (fun q => leW2 L q 10 T k 0 fun _ => none) [.ref L] (fun q => q) 1 10 := by
  refine z_inRH (cc := cJx4a65c_grow_d5877) (maxL := 1) (rt := .array (.object "java/lang/Object")) (by decide +kernel) rfl (Nat.le_of_ble_eq_true rfl) (Or.inr ⟨_, rfl⟩) ?_
  intro p e s m args below meth c9 ls9 A Q Z hE hnm M hl9 hret
  have Z : zC p s m args c9 cJx4a65c_grow_d5877 1 RJx4a65c wsJx4a65c_grow_d5877 D T A := Z
  have hx := Z.1.1
  have hb := Z.1.2.1
  have hts := Z.1.2.2.2.2
  have hinL : ∀ w ∈ wsJx4a65c0, w ∈ wsJx4a65c_grow_d5877 := by decide +kernel
  have L48 := hts (.fieldLink RJx4a65c 48 "java/util/ArrayList" "size" "I") (by decide +kernel)
  have hl9 : lv_has ls9 1 [(0, .ref L)] := hl9
  refine lv_aload_n hx hb dJx4a65c_grow_d5877_0 rfl (lv_at hl9 0 rfl) ?_
  refine lv_aload_n hx hb dJx4a65c_grow_d5877_1 rfl (lv_at hl9 0 rfl) ?_
  refine z_getf Z M hinL 0 rfl rfl 2 (by decide) L48 rfl (v := .int 0) rfl dJx4a65c_grow_d5877_2 ?_
  refine lv_iconst (v := 1) hx hb dJx4a65c_grow_d5877_5 (by decide) ?_
  refine lv_iadd hx hb dJx4a65c_grow_d5877_6 ?_
  refine zn_top (y := 1) (by decide) ?_
  refine z_callVrH (As := [.int 1]) (rest := []) (wc := leW L (.ref ea) k 0) (zF_k C ea) hE Z M (cl_growe l D T L ea k 0 C) (cwV 1 hts gJx4a65c_grow_d5877_Jx4a65c_grow_92f84 rfl rfl rfl (by decide +kernel) ⟨by decide, by decide⟩) [0] rfl (by decide) le2_f (fun _ => Nat.le_of_ble_eq_true rfl) (va_recv Z.2.1 M.1 (ci := 0) (q0 := 0) rfl rfl) rfl hl9.1 (Nat.le_of_ble_eq_true rfl) dJx4a65c_grow_d5877_7 ⟨by decide, by decide⟩ rfl (fun q H1 locs1 M => ?_)
  exact hret _ _ _ _ _ ls9 q _ q M rfl rfl (by decide) (by decide) dJx4a65c_grow_d5877_10
