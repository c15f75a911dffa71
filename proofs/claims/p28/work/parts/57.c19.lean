/-! ===== laid by program ===== -/
/-! ===== the house: what is made ===== -/
theorem gr2_f {L r n N : Nat} {T : Nat → ClassId} {k k2 c2 c : Int32} {f g : Nat → Option Nat} {es : va_W} (u j : Nat) (hj : j < (grW L r n T k c f es).length) : ((grW2 L r n u N T k2 c2 f g es).map Prod.fst)[j]? = ((grW L r n T k c f es).map Prod.fst)[j]? := by
  show ((((r, .inl (T 3, n, qa f)) :: (L, .inr (0, [.int k2, .ref u, .int c2])) :: es) ++ [(u, .inl (T 3, N, qa g))] : va_W).map Prod.fst)[j]? = _
  rw [List.map_append, List.getElem?_append_left (by simpa using hj)]
  rfl
theorem gr2_l {L r n N : Nat} {T : Nat → ClassId} {k k2 c2 c : Int32} {f g : Nat → Option Nat} {es : va_W} (u : Nat) : (grW L r n T k c f es).length ≤ (grW2 L r n u N T k2 c2 f g es).length := by simp
theorem es_app {es : va_W} {y ci : Nat} (z : Nat × va_E) (h : ∃ (j : Nat) (vs : List Value), es[j]? = some (y, .inr (ci, vs))) : ∃ (j : Nat) (vs : List Value), (es ++ [z])[j]? = some (y, .inr (ci, vs)) := by
  obtain ⟨j, vs, e⟩ := h
  exact ⟨j, vs, by rw [List.getElem?_append_left (List.getElem?_eq_some_iff.mp e).1]; exact e⟩
theorem es_front {es : va_W} {y ci : Nat} (z : Nat × va_E) (h : ∃ (j : Nat) (vs : List Value), es[j]? = some (y, .inr (ci, vs))) : ∃ (j : Nat) (vs : List Value), (z :: es)[j]? = some (y, .inr (ci, vs)) := by
  obtain ⟨j, vs, e⟩ := h
  exact ⟨j + 1, vs, e⟩
theorem es_last {es : va_W} (z : Nat × va_E) : (es ++ [z])[es.length]? = some z := by simp
def nwB (m9 : Nat) (v : Int32) : Nat → Int32 := fun k => match k with
  | 0 => nI m9
  | 3 => v * 8
  | 7 => 20
  | 8 => 20
  | 10 => 50
  | 13 => 240
  | 14 => -1
  | 16 => 100
  | 17 => 1
  | _ => 0
set_option maxHeartbeats 4000000 in
set_option maxRecDepth 100000 in
theorem ch_die_e (l : Launch) (D : va_G) (T : Nat → ClassId) (ea mi : Nat) (sa : Nat → Nat) (o : Nat) (ad : Nat → Nat) (lo : Int32) (kd : Int32) : ZIH l yX5_die wsX5_die (zrmc 5 151 3 20) (zW ea mi sa) D T (S := Nat × Nat × Nat) [(o, .inr (6, hsF ad lo)), (ad 8, .inr (0, [.int (kd), .ref ea, .int 0]))] (fun u => [(o, .inr (6, hsF ad lo)), (ad 8, .inr (0, [.int (kd + 1), .ref u.2.2, .int 1])), (u.1, .inr (2, [.ref u.2.1, .int 100])), (u.2.1, .inl (T 0, 8, .inl (fi0 (fun _ => 0) 10 8))), (u.2.2, .inl (T 3, 10, qa (va_up (fun _ => none) 0 (some u.1))))]) [.ref o] (0) 3 20 := by
  refine z_inIH (cc := cX5_die) (maxL := 2) (rt := .int) (by decide +kernel) rfl (Nat.le_of_ble_eq_true rfl) ?_
  intro p e s m args below meth c sl9 A Q Z hW hnm Mz9 hl9 hret
  have Z : zC p s m args c cX5_die 2 RX5 wsX5_die D T A := Z
  have hx := Z.1.1
  have hb := Z.1.2.1
  have hts := Z.1.2.2.2.2
  have hin5 : ∀ w ∈ wsX50, w ∈ wsX5_die := by decide +kernel
  have hinL : ∀ w ∈ wsJx4a65c0, w ∈ wsX5_die := by decide +kernel
  have hin1 : ∀ w ∈ wsX10, w ∈ wsX5_die := by decide +kernel
  have L25 := hts (.fieldLink RX5 25 "AnvilHouse" "dies" "Ljava/util/ArrayList;") (by decide +kernel)
  have hl9 : lv_has sl9 2 [(0, .ref o)] := hl9
  refine lv_aload_n hx hb dX5_die_0 rfl (lv_at hl9 0 rfl) ?_
  refine z_getf Z Mz9 hin5 0 rfl rfl 3 (by decide) L25 rfl (v := .ref (ad 8)) rfl dX5_die_1 ?_
  refine z_callVi (As := []) (rest := []) (rv := 0) (wc := leW (ad 8) (.ref ea) kd 0) (wc' := leW (ad 8) (.ref ea) kd 0) Z Mz9 (cl_size l D T (ad 8) (.ref ea) kd 0) (cwV 0 hts gX5_die_Jx4a65c_size_8abf5 rfl rfl rfl (by decide +kernel) ⟨Nat.le_of_ble_eq_true rfl, Nat.le_of_ble_eq_true rfl⟩) [1] rfl (by decide) (fun j hj => rfl) (Nat.le_refl _) (va_recv Z.2.1 Mz9.1 (ci := 0) (q0 := 1) rfl rfl) rfl hl9.1 (Nat.le_of_ble_eq_true rfl) dX5_die_4 ⟨Nat.le_of_ble_eq_true rfl, Nat.le_of_ble_eq_true rfl⟩ rfl (fun Hp9 lc9 Mz9 => ?_)
  have Mz9 : zM D A s.heap [(o, .inr (6, hsF ad lo)), (ad 8, .inr (0, [.int (kd), .ref ea, .int 0]))] _ _ := Mz9
  refine lv_istore_n (lv' := [(1, .int 0), (0, .ref o)]) hx hb dX5_die_7 rfl hl9 (by decide) rfl (fun sl9 hl9 => ?_)
  refine lv_iload_n hx hb dX5_die_8 rfl (lv_at hl9 0 rfl) ?_
  refine lv_iconst (v := 4) hx hb dX5_die_9 (by decide) ?_
  refine lv_icmp_lt (tgt := 23) hx hb dX5_die_10 (by decide) (fun _ => ?_) (fun h => absurd h (by decide))
  refine lv_aload_n hx hb dX5_die_23 rfl (lv_at hl9 1 rfl) ?_
  refine z_getf Z Mz9 hin5 0 rfl rfl 3 (by decide) L25 rfl (v := .ref (ad 8)) rfl dX5_die_24 ?_
  refine z_new Z Mz9 hin1 tyX1 tyX1_ok (hts (.classLink RX5 198 RX1) (by decide +kernel)) (hts (.instantiable RX1 2) (by decide +kernel)) (hts (.initialized RX1) (by decide +kernel)) (ci := 2) rfl [.null, .int 0] (by decide +kernel) (Nat.le_of_ble_eq_true rfl) (Nat.le_of_ble_eq_true rfl) dX5_die_27 (fun x9 Hp9 Mz9 => ?_)
  have Mz9 : zM D A s.heap [(o, .inr (6, hsF ad lo)), (ad 8, .inr (0, [.int (kd), .ref ea, .int 0])), (x9, .inr (2, [.null, .int 0]))] Hp9 _ := Mz9
  refine lv_dup hx hb dX5_die_30 rfl ?_
  refine z_callGi (As := []) (rest := [.ref x9, .ref (ad 8)]) (wc := [(x9, .inr (2, [.null, .int 0]))]) Z Mz9 (cb_initX1 l D T x9) ⟨callB_of 0 hts gX5_die_X1_init rfl rfl rfl (hts (.initialized RX1) (by decide +kernel)) (hts (.methodLink RX5 200 yX1_init) (by decide +kernel)) (by decide +kernel) ⟨Nat.le_of_ble_eq_true rfl, Nat.le_of_ble_eq_true rfl⟩, rfl, hts (.instanceMethod yX1_init) (by decide +kernel)⟩ [2] rfl (by decide) (fun _ j hj => by have hj : j < 1 := hj; obtain rfl : j = 0 := (by omega); rfl) (fun _ => Nat.le_of_ble_eq_true rfl) rfl hl9.1 (Nat.le_of_ble_eq_true rfl) dX5_die_31 ⟨Nat.le_of_ble_eq_true rfl, Nat.le_of_ble_eq_true rfl⟩ rfl (fun u9 Hp9 lc9 Mz9 => ?_)
  have Mz9 : zM D A s.heap [(o, .inr (6, hsF ad lo)), (ad 8, .inr (0, [.int (kd), .ref ea, .int 0])), (x9, .inr (2, [.ref u9, .int 100])), (u9, .inl (T 0, 8, .inl (fi0 (fun _ => 0) 10 8)))] _ _ := Mz9
  refine z_callViH (As := [.ref x9]) (rest := []) (rv := 1) (wc := feW (ad 8) x9 2 kd ea [.ref u9, .int 100]) (zF_k _ ea) (zW_F1 hW) Z Mz9 (cl_adde l D T (ad 8) x9 ea 2 kd [.ref u9, .int 100] (RX1, TX1, 2) rfl) (cwV 1 hts gX5_die_Jx4a65c_add_9ea2d rfl rfl rfl (by decide +kernel) ⟨Nat.le_of_ble_eq_true rfl, Nat.le_of_ble_eq_true rfl⟩) [1, 2] rfl (by decide) fe2_f (fun _ => Nat.le_of_ble_eq_true rfl) (va_recv Z.2.1 Mz9.1 (ci := 0) (q0 := 1) rfl rfl) rfl hl9.1 (Nat.le_of_ble_eq_true rfl) dX5_die_34 ⟨Nat.le_of_ble_eq_true rfl, Nat.le_of_ble_eq_true rfl⟩ rfl (fun q9 Hp9 lc9 Mz9 => ?_)
  have Mz9 : zM D A s.heap [(o, .inr (6, hsF ad lo)), (ad 8, .inr (0, [.int (kd + 1), .ref q9, .int 1])), (x9, .inr (2, [.ref u9, .int 100])), (u9, .inl (T 0, 8, .inl (fi0 (fun _ => 0) 10 8))), (q9, .inl (T 3, 10, qa (va_up (fun _ => none) 0 (some x9))))] _ _ := Mz9
  refine lv_pop hx hb dX5_die_37 rfl ?_
  refine lv_iload_n hx hb dX5_die_38 rfl (lv_at hl9 0 rfl) ?_
  exact hret _ _ _ _ _ sl9 _ _ (x9, u9, q9) Mz9 (rfl) (rfl) (rfl) (Nat.le_of_ble_eq_true rfl) (Nat.le_of_ble_eq_true rfl) dX5_die_39
set_option maxHeartbeats 4000000 in
set_option maxRecDepth 100000 in
theorem ch_die_r (l : Launch) (D : va_G) (T : Nat → ClassId) (ea mi : Nat) (sa : Nat → Nat) (o : Nat) (ad : Nat → Nat) (lo : Int32) (kd : Int32) (rd nd gd : Nat) (fd : Nat → Option Nat) (h4 : gd < 4) (hgn : gd < nd) (hn9 : nd ≤ 40000) : ZIH l yX5_die wsX5_die (zrmc 2 44 2 10) (zW ea mi sa) D T (S := Nat × Nat) [(o, .inr (6, hsF ad lo)), (ad 8, .inr (0, [.int (kd), .ref rd, .int (nI (gd))])), (rd, .inl (T 3, nd, qa fd))] (fun u => [(o, .inr (6, hsF ad lo)), (ad 8, .inr (0, [.int (kd + 1), .ref rd, .int (nI (gd + 1))])), (rd, .inl (T 3, nd, qa (va_up fd gd (some u.1)))), (u.1, .inr (2, [.ref u.2, .int 100])), (u.2, .inl (T 0, 8, .inl (fi0 (fun _ => 0) 10 8)))]) [.ref o] (nI gd) 2 10 := by
  refine z_inIH (cc := cX5_die) (maxL := 2) (rt := .int) (by decide +kernel) rfl (Nat.le_of_ble_eq_true rfl) ?_
  intro p e s m args below meth c sl9 A Q Z hW hnm Mz9 hl9 hret
  have Z : zC p s m args c cX5_die 2 RX5 wsX5_die D T A := Z
  have hx := Z.1.1
  have hb := Z.1.2.1
  have hts := Z.1.2.2.2.2
  have hin5 : ∀ w ∈ wsX50, w ∈ wsX5_die := by decide +kernel
  have hinL : ∀ w ∈ wsJx4a65c0, w ∈ wsX5_die := by decide +kernel
  have hin1 : ∀ w ∈ wsX10, w ∈ wsX5_die := by decide +kernel
  have L25 := hts (.fieldLink RX5 25 "AnvilHouse" "dies" "Ljava/util/ArrayList;") (by decide +kernel)
  have hl9 : lv_has sl9 2 [(0, .ref o)] := hl9
  refine lv_aload_n hx hb dX5_die_0 rfl (lv_at hl9 0 rfl) ?_
  refine z_getf Z Mz9 hin5 0 rfl rfl 3 (by decide) L25 rfl (v := .ref (ad 8)) rfl dX5_die_1 ?_
  refine z_callVi (As := []) (rest := []) (rv := nI (gd)) (wc := leW (ad 8) (.ref rd) kd (nI (gd))) (wc' := leW (ad 8) (.ref rd) kd (nI (gd))) Z Mz9 (cl_size l D T (ad 8) (.ref rd) kd (nI (gd))) (cwV 0 hts gX5_die_Jx4a65c_size_8abf5 rfl rfl rfl (by decide +kernel) ⟨Nat.le_of_ble_eq_true rfl, Nat.le_of_ble_eq_true rfl⟩) [1] rfl (by decide) (fun j hj => rfl) (Nat.le_refl _) (va_recv Z.2.1 Mz9.1 (ci := 0) (q0 := 1) rfl rfl) rfl hl9.1 (Nat.le_of_ble_eq_true rfl) dX5_die_4 ⟨Nat.le_of_ble_eq_true rfl, Nat.le_of_ble_eq_true rfl⟩ rfl (fun Hp9 lc9 Mz9 => ?_)
  have Mz9 : zM D A s.heap [(o, .inr (6, hsF ad lo)), (ad 8, .inr (0, [.int (kd), .ref rd, .int (nI (gd))])), (rd, .inl (T 3, nd, qa fd))] _ _ := Mz9
  refine lv_istore_n (lv' := [(1, .int (nI (gd))), (0, .ref o)]) hx hb dX5_die_7 rfl hl9 (by decide) rfl (fun sl9 hl9 => ?_)
  refine lv_iload_n hx hb dX5_die_8 rfl (lv_at hl9 0 rfl) ?_
  refine lv_iconst (v := 4) hx hb dX5_die_9 (by decide) ?_
  refine zn_icmp_lt (a := gd) (b := 4) (tgt := 23) (by omega) (by decide) hx hb dX5_die_10 (by decide) (fun _ => ?_) (fun h => absurd h (by omega))
  refine lv_aload_n hx hb dX5_die_23 rfl (lv_at hl9 1 rfl) ?_
  refine z_getf Z Mz9 hin5 0 rfl rfl 3 (by decide) L25 rfl (v := .ref (ad 8)) rfl dX5_die_24 ?_
  refine z_new Z Mz9 hin1 tyX1 tyX1_ok (hts (.classLink RX5 198 RX1) (by decide +kernel)) (hts (.instantiable RX1 2) (by decide +kernel)) (hts (.initialized RX1) (by decide +kernel)) (ci := 2) rfl [.null, .int 0] (by decide +kernel) (Nat.le_of_ble_eq_true rfl) (Nat.le_of_ble_eq_true rfl) dX5_die_27 (fun x9 Hp9 Mz9 => ?_)
  have Mz9 : zM D A s.heap [(o, .inr (6, hsF ad lo)), (ad 8, .inr (0, [.int (kd), .ref rd, .int (nI (gd))])), (rd, .inl (T 3, nd, qa fd)), (x9, .inr (2, [.null, .int 0]))] Hp9 _ := Mz9
  refine lv_dup hx hb dX5_die_30 rfl ?_
  refine z_callGi (As := []) (rest := [.ref x9, .ref (ad 8)]) (wc := [(x9, .inr (2, [.null, .int 0]))]) Z Mz9 (cb_initX1 l D T x9) ⟨callB_of 0 hts gX5_die_X1_init rfl rfl rfl (hts (.initialized RX1) (by decide +kernel)) (hts (.methodLink RX5 200 yX1_init) (by decide +kernel)) (by decide +kernel) ⟨Nat.le_of_ble_eq_true rfl, Nat.le_of_ble_eq_true rfl⟩, rfl, hts (.instanceMethod yX1_init) (by decide +kernel)⟩ [3] rfl (by decide) (fun _ j hj => by have hj : j < 1 := hj; obtain rfl : j = 0 := (by omega); rfl) (fun _ => Nat.le_of_ble_eq_true rfl) rfl hl9.1 (Nat.le_of_ble_eq_true rfl) dX5_die_31 ⟨Nat.le_of_ble_eq_true rfl, Nat.le_of_ble_eq_true rfl⟩ rfl (fun u9 Hp9 lc9 Mz9 => ?_)
  have Mz9 : zM D A s.heap [(o, .inr (6, hsF ad lo)), (ad 8, .inr (0, [.int (kd), .ref rd, .int (nI (gd))])), (rd, .inl (T 3, nd, qa fd)), (x9, .inr (2, [.ref u9, .int 100])), (u9, .inl (T 0, 8, .inl (fi0 (fun _ => 0) 10 8)))] _ _ := Mz9
  refine z_callViP (As := [.ref x9]) (rest := []) (rv := 1) (wc := laW (ad 8) rd nd x9 2 T kd (nI (gd)) fd [.ref u9, .int 100]) (zCa_k _) (zWw hW (w := .castable RX1 "java/lang/Object") (by decide +kernel)) Z Mz9 (cl_add l D T (ad 8) rd nd x9 2 gd kd fd [.ref u9, .int 100] (RX1, TX1, 2) rfl hgn (by omega)) (cwV 1 hts gX5_die_Jx4a65c_add_9ea2d rfl rfl rfl (by decide +kernel) ⟨Nat.le_of_ble_eq_true rfl, Nat.le_of_ble_eq_true rfl⟩) [1, 2, 3] rfl (by decide) (fun _ j hj => rfl) (fun _ => Nat.le_refl _) (va_recv Z.2.1 Mz9.1 (ci := 0) (q0 := 1) rfl rfl) rfl hl9.1 (Nat.le_of_ble_eq_true rfl) dX5_die_34 ⟨Nat.le_of_ble_eq_true rfl, Nat.le_of_ble_eq_true rfl⟩ rfl (fun _ Hp9 lc9 Mz9 => ?_)
  have Mz9 : zM D A s.heap [(o, .inr (6, hsF ad lo)), (ad 8, .inr (0, [.int (kd + 1), .ref rd, .int (nI (gd + 1))])), (rd, .inl (T 3, nd, qa (va_up fd gd (some x9)))), (x9, .inr (2, [.ref u9, .int 100])), (u9, .inl (T 0, 8, .inl (fi0 (fun _ => 0) 10 8)))] _ _ := Mz9
  refine lv_pop hx hb dX5_die_37 rfl ?_
  refine lv_iload_n hx hb dX5_die_38 rfl (lv_at hl9 0 rfl) ?_
  exact hret _ _ _ _ _ sl9 _ _ (x9, u9) Mz9 (rfl) (rfl) (rfl) (Nat.le_of_ble_eq_true rfl) (Nat.le_of_ble_eq_true rfl) dX5_die_39
set_option maxHeartbeats 4000000 in
set_option maxRecDepth 100000 in
theorem ch_die_w (l : Launch) (hfl : l.stackTraces = false) (D : va_G) (T : Nat → ClassId) (ea mi : Nat) (sa : Nat → Nat) (o : Nat) (ad : Nat → Nat) (lo : Int32) (kd : Int32) (rd gd : Nat) (h4 : 4 ≤ gd) (h5 : gd < 2 ^ 31) : ZB l yX5_die wsX5_die (zrmc 6 82 1 6) (zW ea mi sa) D T [(o, .inr (6, hsF ad lo)), (ad 8, .inr (0, [.int (kd), .ref rd, .int (nI (gd))]))] [.ref o] "java/lang/IllegalStateException" := by
  refine z_inB (cc := cX5_die) (maxL := 2) (ret := (some .int)) (by decide +kernel) rfl (Nat.le_of_ble_eq_true rfl) ?_
  intro p e s m args below meth c sl9 A hA Z hW Mz9 hl9 hE
  have Z : zC p s m args c cX5_die 2 RX5 wsX5_die D T A := Z
  have hx := Z.1.1
  have hb := Z.1.2.1
  have hts := Z.1.2.2.2.2
  have hin5 : ∀ w ∈ wsX50, w ∈ wsX5_die := by decide +kernel
  have hinL : ∀ w ∈ wsJx4a65c0, w ∈ wsX5_die := by decide +kernel
  have hin1 : ∀ w ∈ wsX10, w ∈ wsX5_die := by decide +kernel
  have hX9 : ∀ w ∈ Cond.classLink RX5 76 "java/lang/IllegalStateException" :: Cond.initialized "java/lang/IllegalStateException" :: (vx_atS RX5 80 "java/lang/IllegalStateException" zNm).filter goodWord, w ∈ wsX5_die := by decide +kernel
  have L25 := hts (.fieldLink RX5 25 "AnvilHouse" "dies" "Ljava/util/ArrayList;") (by decide +kernel)
  have hl9 : lv_has sl9 2 [(0, .ref o)] := hl9
  refine lv_aload_n hx hb dX5_die_0 rfl (lv_at hl9 0 rfl) ?_
  refine z_getf Z Mz9 hin5 0 rfl rfl 3 (by decide) L25 rfl (v := .ref (ad 8)) rfl dX5_die_1 ?_
  refine z_callVi (As := []) (rest := []) (rv := nI (gd)) (wc := leW (ad 8) (.ref rd) kd (nI (gd))) (wc' := leW (ad 8) (.ref rd) kd (nI (gd))) Z Mz9 (cl_size l D T (ad 8) (.ref rd) kd (nI (gd))) (cwV 0 hts gX5_die_Jx4a65c_size_8abf5 rfl rfl rfl (by decide +kernel) ⟨Nat.le_of_ble_eq_true rfl, Nat.le_of_ble_eq_true rfl⟩) [1] rfl (by decide) (fun j hj => rfl) (Nat.le_refl _) (va_recv Z.2.1 Mz9.1 (ci := 0) (q0 := 1) rfl rfl) rfl hl9.1 (Nat.le_of_ble_eq_true rfl) dX5_die_4 ⟨Nat.le_of_ble_eq_true rfl, Nat.le_of_ble_eq_true rfl⟩ rfl (fun Hp9 lc9 Mz9 => ?_)
  have Mz9 : zM D A s.heap [(o, .inr (6, hsF ad lo)), (ad 8, .inr (0, [.int (kd), .ref rd, .int (nI (gd))]))] _ _ := Mz9
  refine lv_istore_n (lv' := [(1, .int (nI (gd))), (0, .ref o)]) hx hb dX5_die_7 rfl hl9 (by decide) rfl (fun sl9 hl9 => ?_)
  refine lv_iload_n hx hb dX5_die_8 rfl (lv_at hl9 0 rfl) ?_
  refine lv_iconst (v := 4) hx hb dX5_die_9 (by decide) ?_
  refine zn_icmp_lt (a := gd) (b := 4) (tgt := 23) (by omega) (by decide) hx hb dX5_die_10 (by decide) (fun h => absurd h (by omega)) (fun _ => ?_)
  exact z_throw Z hW Mz9 hA hE hl9.1 hfl zThr_S hX9 (is := 196) (text := "there are 4 dies") (by decide +kernel) dX5_die_13 dX5_die_16 dX5_die_17 dX5_die_19 dX5_die_22 (Nat.le_of_ble_eq_true rfl) (Nat.le_of_ble_eq_true rfl) ⟨Nat.le_of_ble_eq_true rfl, Nat.le_of_ble_eq_true rfl⟩ ⟨Nat.le_of_ble_eq_true rfl, Nat.le_of_ble_eq_true rfl⟩ rfl
set_option maxHeartbeats 4000000 in
set_option maxRecDepth 100000 in
theorem ch_melt_e (l : Launch) (D : va_G) (T : Nat → ClassId) (ea mi : Nat) (sa : Nat → Nat) (o : Nat) (ad : Nat → Nat) (lo : Int32) (fs : Nat → Option Nat) (u j : Nat) (τ : Nat → Int32) (hj : j < 4) (hf : fs j = some u) (km : Int32) : ZIH l yX5_melt wsX5_melt (zrmc 5 151 1 10) (zW ea mi sa) D T (S := Nat) [(o, .inr (6, hsF ad lo)), (ad 1, .inl (T 4, 4, qa fs)), (ad 6, .inr (0, [.int (km), .ref ea, .int 0])), (u, .inr (5, [.int (τ 0), .int (τ 1), .int (τ 2)]))] (fun u9 => [(o, .inr (6, hsF ad lo)), (ad 1, .inl (T 4, 4, qa fs)), (ad 6, .inr (0, [.int (km + 1), .ref u9, .int 1])), (u, .inr (5, [.int (τ 0), .int (τ 1), .int (τ 2)])), (u9, .inl (T 3, 10, qa (va_up (fun _ => none) 0 (some u))))]) [.ref o, .int (nI (j))] (0) 1 10 := by
  refine z_inIH (cc := cX5_melt) (maxL := 4) (rt := .int) (by decide +kernel) rfl (Nat.le_of_ble_eq_true rfl) ?_
  intro p e s m args below meth c sl9 A Q Z hW hnm Mz9 hl9 hret
  have Z : zC p s m args c cX5_melt 4 RX5 wsX5_melt D T A := Z
  have hx := Z.1.1
  have hb := Z.1.2.1
  have hts := Z.1.2.2.2.2
  have hin5 : ∀ w ∈ wsX50, w ∈ wsX5_melt := by decide +kernel
  have hinL : ∀ w ∈ wsJx4a65c0, w ∈ wsX5_melt := by decide +kernel
  have L18 := hts (.fieldLink RX5 18 "AnvilHouse" "melts" "Ljava/util/ArrayList;") (by decide +kernel)
  have hl9 : lv_has sl9 4 [(0, .ref o), (1, .int (nI (j)))] := hl9
  refine lv_aload_n hx hb dX5_melt_0 rfl (lv_at hl9 0 rfl) ?_
  refine lv_iload_n hx hb dX5_melt_1 rfl (lv_at hl9 1 rfl) ?_
  refine z_callVr (As := [.int (nI (j))]) (rest := []) (wc := [(o, .inr (6, hsF ad lo)), (ad 1, .inl (T 4, 4, qa fs))]) Z Mz9 (ch_steelAt l D T o ad lo fs u (j) hj hf) (cwV 1 hts gX5_melt_X5_steelAt rfl rfl rfl (by decide +kernel) ⟨Nat.le_of_ble_eq_true rfl, Nat.le_of_ble_eq_true rfl⟩) [0, 1] rfl (by decide) (fun _ j hj => rfl) (fun _ => Nat.le_refl _) (va_recv Z.2.1 Mz9.1 (ci := 6) (q0 := 0) rfl rfl) rfl hl9.1 (Nat.le_of_ble_eq_true rfl) dX5_melt_2 ⟨Nat.le_of_ble_eq_true rfl, Nat.le_of_ble_eq_true rfl⟩ rfl (fun _ Hp9 lc9 Mz9 => ?_)
  have Mz9 : zM D A s.heap [(o, .inr (6, hsF ad lo)), (ad 1, .inl (T 4, 4, qa fs)), (ad 6, .inr (0, [.int (km), .ref ea, .int 0])), (u, .inr (5, [.int (τ 0), .int (τ 1), .int (τ 2)]))] _ _ := Mz9
  refine lv_astore_n (lv' := [(2, .ref u), (0, .ref o), (1, .int (nI (j)))]) hx hb dX5_melt_5 rfl hl9 (by decide) rfl (fun sl9 hl9 => ?_)
  refine lv_aload_n hx hb dX5_melt_6 rfl (lv_at hl9 1 rfl) ?_
  refine z_getf Z Mz9 hin5 0 rfl rfl 1 (by decide) L18 rfl (v := .ref (ad 6)) rfl dX5_melt_7 ?_
  refine z_callVi (As := []) (rest := []) (rv := 0) (wc := leW (ad 6) (.ref ea) km 0) (wc' := leW (ad 6) (.ref ea) km 0) Z Mz9 (cl_size l D T (ad 6) (.ref ea) km 0) (cwV 0 hts gX5_melt_Jx4a65c_size_8abf5 rfl rfl rfl (by decide +kernel) ⟨Nat.le_of_ble_eq_true rfl, Nat.le_of_ble_eq_true rfl⟩) [2] rfl (by decide) (fun j hj => rfl) (Nat.le_refl _) (va_recv Z.2.1 Mz9.1 (ci := 0) (q0 := 2) rfl rfl) rfl hl9.1 (Nat.le_of_ble_eq_true rfl) dX5_melt_10 ⟨Nat.le_of_ble_eq_true rfl, Nat.le_of_ble_eq_true rfl⟩ rfl (fun Hp9 lc9 Mz9 => ?_)
  have Mz9 : zM D A s.heap [(o, .inr (6, hsF ad lo)), (ad 1, .inl (T 4, 4, qa fs)), (ad 6, .inr (0, [.int (km), .ref ea, .int 0])), (u, .inr (5, [.int (τ 0), .int (τ 1), .int (τ 2)]))] _ _ := Mz9
  refine lv_istore_n (lv' := [(3, .int 0), (2, .ref u), (0, .ref o), (1, .int (nI (j)))]) hx hb dX5_melt_13 rfl hl9 (by decide) rfl (fun sl9 hl9 => ?_)
  refine lv_iload_n hx hb dX5_melt_14 rfl (lv_at hl9 0 rfl) ?_
  refine lv_bipush (v := 20) hx hb dX5_melt_15 (by decide) ?_
  refine lv_icmp_lt (tgt := 30) hx hb dX5_melt_17 (by decide) (fun _ => ?_) (fun h => absurd h (by decide))
  refine lv_aload_n hx hb dX5_melt_30 rfl (lv_at hl9 2 rfl) ?_
  refine z_getf Z Mz9 hin5 0 rfl rfl 1 (by decide) L18 rfl (v := .ref (ad 6)) rfl dX5_melt_31 ?_
  refine lv_aload_n hx hb dX5_melt_34 rfl (lv_at hl9 1 rfl) ?_
  refine z_callViH (As := [.ref u]) (rest := []) (rv := 1) (wc := feW (ad 6) u 5 km ea [.int (τ 0), .int (τ 1), .int (τ 2)]) (zF_k _ ea) (zW_F4 hW) Z Mz9 (cl_adde l D T (ad 6) u ea 5 km [.int (τ 0), .int (τ 1), .int (τ 2)] (RX4, TX4, 3) rfl) (cwV 1 hts gX5_melt_Jx4a65c_add_9ea2d rfl rfl rfl (by decide +kernel) ⟨Nat.le_of_ble_eq_true rfl, Nat.le_of_ble_eq_true rfl⟩) [2, 3] rfl (by decide) fe2_f (fun _ => Nat.le_of_ble_eq_true rfl) (va_recv Z.2.1 Mz9.1 (ci := 0) (q0 := 2) rfl rfl) rfl hl9.1 (Nat.le_of_ble_eq_true rfl) dX5_melt_35 ⟨Nat.le_of_ble_eq_true rfl, Nat.le_of_ble_eq_true rfl⟩ rfl (fun q9 Hp9 lc9 Mz9 => ?_)
  have Mz9 : zM D A s.heap [(o, .inr (6, hsF ad lo)), (ad 1, .inl (T 4, 4, qa fs)), (ad 6, .inr (0, [.int (km + 1), .ref q9, .int 1])), (u, .inr (5, [.int (τ 0), .int (τ 1), .int (τ 2)])), (q9, .inl (T 3, 10, qa (va_up (fun _ => none) 0 (some u))))] _ _ := Mz9
  refine lv_pop hx hb dX5_melt_38 rfl ?_
  refine lv_iload_n hx hb dX5_melt_39 rfl (lv_at hl9 0 rfl) ?_
  exact hret _ _ _ _ _ sl9 _ _ q9 Mz9 (rfl) (rfl) (rfl) (Nat.le_of_ble_eq_true rfl) (Nat.le_of_ble_eq_true rfl) dX5_melt_40
set_option maxHeartbeats 4000000 in
set_option maxRecDepth 100000 in
theorem ch_melt_r (l : Launch) (D : va_G) (T : Nat → ClassId) (ea mi : Nat) (sa : Nat → Nat) (o : Nat) (ad : Nat → Nat) (lo : Int32) (fs : Nat → Option Nat) (u j : Nat) (τ : Nat → Int32) (hj : j < 4) (hf : fs j = some u) (km : Int32) (rm nm gm : Nat) (fm : Nat → Option Nat) (h4 : gm < 20) (hgn : gm < nm) (hn9 : nm ≤ 40000) : ZIH l yX5_melt wsX5_melt (zrm 2 44) (zW ea mi sa) D T (S := Unit) [(o, .inr (6, hsF ad lo)), (ad 1, .inl (T 4, 4, qa fs)), (ad 6, .inr (0, [.int (km), .ref rm, .int (nI (gm))])), (rm, .inl (T 3, nm, qa fm)), (u, .inr (5, [.int (τ 0), .int (τ 1), .int (τ 2)]))] (fun _ => [(o, .inr (6, hsF ad lo)), (ad 1, .inl (T 4, 4, qa fs)), (ad 6, .inr (0, [.int (km + 1), .ref rm, .int (nI (gm + 1))])), (rm, .inl (T 3, nm, qa (va_up fm gm (some u)))), (u, .inr (5, [.int (τ 0), .int (τ 1), .int (τ 2)]))]) [.ref o, .int (nI (j))] (nI gm) 0 0 := by
  refine z_inIH (cc := cX5_melt) (maxL := 4) (rt := .int) (by decide +kernel) rfl (Nat.le_of_ble_eq_true rfl) ?_
  intro p e s m args below meth c sl9 A Q Z hW hnm Mz9 hl9 hret
  have Z : zC p s m args c cX5_melt 4 RX5 wsX5_melt D T A := Z
  have hx := Z.1.1
  have hb := Z.1.2.1
  have hts := Z.1.2.2.2.2
  have hin5 : ∀ w ∈ wsX50, w ∈ wsX5_melt := by decide +kernel
  have hinL : ∀ w ∈ wsJx4a65c0, w ∈ wsX5_melt := by decide +kernel
  have L18 := hts (.fieldLink RX5 18 "AnvilHouse" "melts" "Ljava/util/ArrayList;") (by decide +kernel)
  have hl9 : lv_has sl9 4 [(0, .ref o), (1, .int (nI (j)))] := hl9
  refine lv_aload_n hx hb dX5_melt_0 rfl (lv_at hl9 0 rfl) ?_
  refine lv_iload_n hx hb dX5_melt_1 rfl (lv_at hl9 1 rfl) ?_
  refine z_callVr (As := [.int (nI (j))]) (rest := []) (wc := [(o, .inr (6, hsF ad lo)), (ad 1, .inl (T 4, 4, qa fs))]) Z Mz9 (ch_steelAt l D T o ad lo fs u (j) hj hf) (cwV 1 hts gX5_melt_X5_steelAt rfl rfl rfl (by decide +kernel) ⟨Nat.le_of_ble_eq_true rfl, Nat.le_of_ble_eq_true rfl⟩) [0, 1] rfl (by decide) (fun _ j hj => rfl) (fun _ => Nat.le_refl _) (va_recv Z.2.1 Mz9.1 (ci := 6) (q0 := 0) rfl rfl) rfl hl9.1 (Nat.le_of_ble_eq_true rfl) dX5_melt_2 ⟨Nat.le_of_ble_eq_true rfl, Nat.le_of_ble_eq_true rfl⟩ rfl (fun _ Hp9 lc9 Mz9 => ?_)
  have Mz9 : zM D A s.heap [(o, .inr (6, hsF ad lo)), (ad 1, .inl (T 4, 4, qa fs)), (ad 6, .inr (0, [.int (km), .ref rm, .int (nI (gm))])), (rm, .inl (T 3, nm, qa fm)), (u, .inr (5, [.int (τ 0), .int (τ 1), .int (τ 2)]))] _ _ := Mz9
  refine lv_astore_n (lv' := [(2, .ref u), (0, .ref o), (1, .int (nI (j)))]) hx hb dX5_melt_5 rfl hl9 (by decide) rfl (fun sl9 hl9 => ?_)
  refine lv_aload_n hx hb dX5_melt_6 rfl (lv_at hl9 1 rfl) ?_
  refine z_getf Z Mz9 hin5 0 rfl rfl 1 (by decide) L18 rfl (v := .ref (ad 6)) rfl dX5_melt_7 ?_
  refine z_callVi (As := []) (rest := []) (rv := nI (gm)) (wc := leW (ad 6) (.ref rm) km (nI (gm))) (wc' := leW (ad 6) (.ref rm) km (nI (gm))) Z Mz9 (cl_size l D T (ad 6) (.ref rm) km (nI (gm))) (cwV 0 hts gX5_melt_Jx4a65c_size_8abf5 rfl rfl rfl (by decide +kernel) ⟨Nat.le_of_ble_eq_true rfl, Nat.le_of_ble_eq_true rfl⟩) [2] rfl (by decide) (fun j hj => rfl) (Nat.le_refl _) (va_recv Z.2.1 Mz9.1 (ci := 0) (q0 := 2) rfl rfl) rfl hl9.1 (Nat.le_of_ble_eq_true rfl) dX5_melt_10 ⟨Nat.le_of_ble_eq_true rfl, Nat.le_of_ble_eq_true rfl⟩ rfl (fun Hp9 lc9 Mz9 => ?_)
  have Mz9 : zM D A s.heap [(o, .inr (6, hsF ad lo)), (ad 1, .inl (T 4, 4, qa fs)), (ad 6, .inr (0, [.int (km), .ref rm, .int (nI (gm))])), (rm, .inl (T 3, nm, qa fm)), (u, .inr (5, [.int (τ 0), .int (τ 1), .int (τ 2)]))] _ _ := Mz9
  refine lv_istore_n (lv' := [(3, .int (nI (gm))), (2, .ref u), (0, .ref o), (1, .int (nI (j)))]) hx hb dX5_melt_13 rfl hl9 (by decide) rfl (fun sl9 hl9 => ?_)
  refine lv_iload_n hx hb dX5_melt_14 rfl (lv_at hl9 0 rfl) ?_
  refine lv_bipush (v := 20) hx hb dX5_melt_15 (by decide) ?_
  refine zn_icmp_lt (a := gm) (b := 20) (tgt := 30) (by omega) (by decide) hx hb dX5_melt_17 (by decide) (fun _ => ?_) (fun h => absurd h (by omega))
  refine lv_aload_n hx hb dX5_melt_30 rfl (lv_at hl9 2 rfl) ?_
  refine z_getf Z Mz9 hin5 0 rfl rfl 1 (by decide) L18 rfl (v := .ref (ad 6)) rfl dX5_melt_31 ?_
  refine lv_aload_n hx hb dX5_melt_34 rfl (lv_at hl9 1 rfl) ?_
  refine z_callViP (As := [.ref u]) (rest := []) (rv := 1) (wc := laW (ad 6) rm nm u 5 T km (nI (gm)) fm [.int (τ 0), .int (τ 1), .int (τ 2)]) (zCa_k _) (zWw hW (w := .castable RX4 "java/lang/Object") (by decide +kernel)) Z Mz9 (cl_add l D T (ad 6) rm nm u 5 gm km fm [.int (τ 0), .int (τ 1), .int (τ 2)] (RX4, TX4, 3) rfl hgn (by omega)) (cwV 1 hts gX5_melt_Jx4a65c_add_9ea2d rfl rfl rfl (by decide +kernel) ⟨Nat.le_of_ble_eq_true rfl, Nat.le_of_ble_eq_true rfl⟩) [2, 3, 4] rfl (by decide) (fun _ j hj => rfl) (fun _ => Nat.le_refl _) (va_recv Z.2.1 Mz9.1 (ci := 0) (q0 := 2) rfl rfl) rfl hl9.1 (Nat.le_of_ble_eq_true rfl) dX5_melt_35 ⟨Nat.le_of_ble_eq_true rfl, Nat.le_of_ble_eq_true rfl⟩ rfl (fun _ Hp9 lc9 Mz9 => ?_)
  have Mz9 : zM D A s.heap [(o, .inr (6, hsF ad lo)), (ad 1, .inl (T 4, 4, qa fs)), (ad 6, .inr (0, [.int (km + 1), .ref rm, .int (nI (gm + 1))])), (rm, .inl (T 3, nm, qa (va_up fm gm (some u)))), (u, .inr (5, [.int (τ 0), .int (τ 1), .int (τ 2)]))] _ _ := Mz9
  refine lv_pop hx hb dX5_melt_38 rfl ?_
  refine lv_iload_n hx hb dX5_melt_39 rfl (lv_at hl9 0 rfl) ?_
  exact hret _ _ _ _ _ sl9 _ _ () Mz9 (rfl) (rfl) (rfl) (Nat.le_of_ble_eq_true rfl) (Nat.le_of_ble_eq_true rfl) dX5_melt_40
set_option maxHeartbeats 4000000 in
set_option maxRecDepth 100000 in
theorem ch_melt_f (l : Launch) (D : va_G) (T : Nat → ClassId) (ea mi : Nat) (sa : Nat → Nat) (o : Nat) (ad : Nat → Nat) (lo : Int32) (fs : Nat → Option Nat) (u j : Nat) (hj : j < 4) (hf : fs j = some u) (km : Int32) (rm nm : Nat) (fm : Nat → Option Nat) (es : va_W) (j0 : Nat) (vs9 : List Value) (h4 : nm < 20) (h2 : 2 ≤ nm) (hj0 : es[j0]? = some (u, .inr (5, vs9))) (he9 : ∀ i y : Nat, i < nm → fm i = some y → ∃ (j : Nat) (vs : List Value), es[j]? = some (y, .inr (5, vs))) : ZIH l yX5_melt wsX5_melt (zrmc 7 201 1 (nm + nm / 2)) (zW ea mi sa) D T (S := Nat) ([(o, .inr (6, hsF ad lo)), (ad 1, .inl (T 4, 4, qa fs)), (rm, .inl (T 3, nm, qa fm)), (ad 6, .inr (0, [.int (km), .ref rm, .int (nI (nm))]))] ++ es) (fun u9 => (([(o, .inr (6, hsF ad lo)), (ad 1, .inl (T 4, 4, qa fs)), (rm, .inl (T 3, nm, qa fm)), (ad 6, .inr (0, [.int (km + 1), .ref u9, .int (nI (nm + 1))]))] ++ es) ++ [(u9, .inl (T 3, (nm + nm / 2), qa (va_up (va_cpy fm (fun _ => none) 0 0 nm) nm (some u))))])) [.ref o, .int (nI (j))] (nI nm) 1 (nm + nm / 2) := by
  refine z_inIH (cc := cX5_melt) (maxL := 4) (rt := .int) (by decide +kernel) rfl (Nat.le_of_ble_eq_true rfl) ?_
  intro p e s m args below meth c sl9 A Q Z hW hnm Mz9 hl9 hret
  have Z : zC p s m args c cX5_melt 4 RX5 wsX5_melt D T A := Z
  have hx := Z.1.1
  have hb := Z.1.2.1
  have hts := Z.1.2.2.2.2
  have hin5 : ∀ w ∈ wsX50, w ∈ wsX5_melt := by decide +kernel
  have hinL : ∀ w ∈ wsJx4a65c0, w ∈ wsX5_melt := by decide +kernel
  have L18 := hts (.fieldLink RX5 18 "AnvilHouse" "melts" "Ljava/util/ArrayList;") (by decide +kernel)
  have hl9 : lv_has sl9 4 [(0, .ref o), (1, .int (nI (j)))] := hl9
  refine lv_aload_n hx hb dX5_melt_0 rfl (lv_at hl9 0 rfl) ?_
  refine lv_iload_n hx hb dX5_melt_1 rfl (lv_at hl9 1 rfl) ?_
  refine z_callVr (As := [.int (nI (j))]) (rest := []) (wc := [(o, .inr (6, hsF ad lo)), (ad 1, .inl (T 4, 4, qa fs))]) Z Mz9 (ch_steelAt l D T o ad lo fs u (j) hj hf) (cwV 1 hts gX5_melt_X5_steelAt rfl rfl rfl (by decide +kernel) ⟨Nat.le_of_ble_eq_true rfl, Nat.le_of_ble_eq_true rfl⟩) [0, 1] rfl (by decide) (fun _ j hj => rfl) (fun _ => Nat.le_refl _) (va_recv Z.2.1 Mz9.1 (ci := 6) (q0 := 0) rfl rfl) rfl hl9.1 (Nat.le_of_ble_eq_true rfl) dX5_melt_2 ⟨Nat.le_of_ble_eq_true rfl, Nat.le_of_ble_eq_true rfl⟩ rfl (fun _ Hp9 lc9 Mz9 => ?_)
  have Mz9 : zM D A s.heap ([(o, .inr (6, hsF ad lo)), (ad 1, .inl (T 4, 4, qa fs)), (rm, .inl (T 3, nm, qa fm)), (ad 6, .inr (0, [.int (km), .ref rm, .int (nI (nm))]))] ++ es) _ _ := zM_w (by simp only [z_put, List.append_nil]; rfl) Mz9
  refine lv_astore_n (lv' := [(2, .ref u), (0, .ref o), (1, .int (nI (j)))]) hx hb dX5_melt_5 rfl hl9 (by decide) rfl (fun sl9 hl9 => ?_)
  refine lv_aload_n hx hb dX5_melt_6 rfl (lv_at hl9 1 rfl) ?_
  refine z_getf Z Mz9 hin5 0 rfl rfl 1 (by decide) L18 rfl (v := .ref (ad 6)) rfl dX5_melt_7 ?_
  refine z_callVi (As := []) (rest := []) (rv := nI (nm)) (wc := leW (ad 6) (.ref rm) km (nI (nm))) (wc' := leW (ad 6) (.ref rm) km (nI (nm))) Z Mz9 (cl_size l D T (ad 6) (.ref rm) km (nI (nm))) (cwV 0 hts gX5_melt_Jx4a65c_size_8abf5 rfl rfl rfl (by decide +kernel) ⟨Nat.le_of_ble_eq_true rfl, Nat.le_of_ble_eq_true rfl⟩) [3] rfl (by decide) (fun j hj => rfl) (Nat.le_refl _) (va_recv Z.2.1 Mz9.1 (ci := 0) (q0 := 3) rfl rfl) rfl hl9.1 (Nat.le_of_ble_eq_true rfl) dX5_melt_10 ⟨Nat.le_of_ble_eq_true rfl, Nat.le_of_ble_eq_true rfl⟩ rfl (fun Hp9 lc9 Mz9 => ?_)
  have Mz9 : zM D A s.heap ([(o, .inr (6, hsF ad lo)), (ad 1, .inl (T 4, 4, qa fs)), (rm, .inl (T 3, nm, qa fm)), (ad 6, .inr (0, [.int (km), .ref rm, .int (nI (nm))]))] ++ es) _ _ := zM_w (by simp only [z_put, List.append_nil]; rfl) Mz9
  refine lv_istore_n (lv' := [(3, .int (nI (nm))), (2, .ref u), (0, .ref o), (1, .int (nI (j)))]) hx hb dX5_melt_13 rfl hl9 (by decide) rfl (fun sl9 hl9 => ?_)
  refine lv_iload_n hx hb dX5_melt_14 rfl (lv_at hl9 0 rfl) ?_
  refine lv_bipush (v := 20) hx hb dX5_melt_15 (by decide) ?_
  refine zn_icmp_lt (a := nm) (b := 20) (tgt := 30) (by omega) (by decide) hx hb dX5_melt_17 (by decide) (fun _ => ?_) (fun h => absurd h (by omega))
  refine lv_aload_n hx hb dX5_melt_30 rfl (lv_at hl9 2 rfl) ?_
  refine z_getf Z Mz9 hin5 0 rfl rfl 1 (by decide) L18 rfl (v := .ref (ad 6)) rfl dX5_melt_31 ?_
  refine lv_aload_n hx hb dX5_melt_34 rfl (lv_at hl9 1 rfl) ?_
  obtain ⟨is9, hp1, hp2, hp3⟩ := mid_places [(o, .inr (6, hsF ad lo)), (ad 1, .inl (T 4, 4, qa fs))] (grW (ad 6) rm nm T km (nI nm) fm es) []
  have Mz9 : zM D A s.heap ([(o, .inr (6, hsF ad lo)), (ad 1, .inl (T 4, 4, qa fs))] ++ (grW (ad 6) rm nm T km (nI nm) fm es) ++ []) _ _ := zM_w (by simp only [grW, List.append_assoc, List.cons_append, List.nil_append, List.append_nil]) Mz9
  refine z_callViP (As := [.ref u]) (rest := []) (rv := 1) (wc := grW (ad 6) rm nm T km (nI nm) fm es) (zGr_k _ _) (zW_G hW (C := RX4) (by decide +kernel)) Z Mz9 (cl_addf l D T (ad 6) rm nm u 5 mi j0 km fm es vs9 (RX4, TX4, 3) rfl h2 (by omega) hj0 he9) (cwV 1 hts gX5_melt_Jx4a65c_add_9ea2d rfl rfl rfl (by decide +kernel) ⟨Nat.le_of_ble_eq_true rfl, Nat.le_of_ble_eq_true rfl⟩) is9 hp1 hp2 gr2_f gr2_l (va_recv Z.2.1 Mz9.1 (ci := 0) (q0 := 3) rfl rfl) rfl hl9.1 (Nat.le_of_ble_eq_true rfl) dX5_melt_35 ⟨Nat.le_of_ble_eq_true rfl, Nat.le_of_eq (Nat.zero_add _)⟩ rfl (fun q9 Hp9 lc9 Mz9 => ?_)
  have Mz9 : zM D A s.heap _ _ _ := zM_w (hp3 ((rm, .inl (T 3, nm, qa fm)) :: (ad 6, .inr (0, [.int (km + 1), .ref q9, .int (nI (nm + 1))])) :: es) [(q9, .inl (T 3, (nm + nm / 2), qa (va_up (va_cpy fm (fun _ => none) 0 0 nm) nm (some u))))] (by rfl)) Mz9
  have Mz9 : zM D A s.heap (([(o, .inr (6, hsF ad lo)), (ad 1, .inl (T 4, 4, qa fs)), (rm, .inl (T 3, nm, qa fm)), (ad 6, .inr (0, [.int (km + 1), .ref q9, .int (nI (nm + 1))]))] ++ es) ++ [(q9, .inl (T 3, (nm + nm / 2), qa (va_up (va_cpy fm (fun _ => none) 0 0 nm) nm (some u))))]) _ _ := zM_w (by simp only [List.append_assoc, List.cons_append, List.nil_append, List.append_nil]) Mz9
  refine lv_pop hx hb dX5_melt_38 rfl ?_
  refine lv_iload_n hx hb dX5_melt_39 rfl (lv_at hl9 0 rfl) ?_
  exact hret _ _ _ _ _ sl9 _ _ q9 Mz9 (rfl) (rfl) (rfl) (Nat.le_of_ble_eq_true rfl) (Nat.le_of_eq (Nat.zero_add _)) dX5_melt_40
set_option maxHeartbeats 4000000 in
set_option maxRecDepth 100000 in
theorem ch_melt_b (l : Launch) (hfl : l.stackTraces = false) (D : va_G) (T : Nat → ClassId) (ea mi : Nat) (sa : Nat → Nat) (o : Nat) (ad : Nat → Nat) (lo : Int32) (v : Int32) (hv9 : v < 0 ∨ 4 ≤ v) : ZB l yX5_melt wsX5_melt (zrmc 7 103 1 6) (zW ea mi sa) D T [(o, .inr (6, hsF ad lo))] [.ref o, .int (v)] "java/lang/IndexOutOfBoundsException" := by
  refine z_inB (cc := cX5_melt) (maxL := 4) (ret := (some .int)) (by decide +kernel) rfl (Nat.le_of_ble_eq_true rfl) ?_
  intro p e s m args below meth c sl9 A hA Z hW Mz9 hl9 hE
  have Z : zC p s m args c cX5_melt 4 RX5 wsX5_melt D T A := Z
  have hx := Z.1.1
  have hb := Z.1.2.1
  have hts := Z.1.2.2.2.2
  have hin5 : ∀ w ∈ wsX50, w ∈ wsX5_melt := by decide +kernel
  have hinL : ∀ w ∈ wsJx4a65c0, w ∈ wsX5_melt := by decide +kernel
  have L18 := hts (.fieldLink RX5 18 "AnvilHouse" "melts" "Ljava/util/ArrayList;") (by decide +kernel)
  have hl9 : lv_has sl9 4 [(0, .ref o), (1, .int (v))] := hl9
  refine lv_aload_n hx hb dX5_melt_0 rfl (lv_at hl9 0 rfl) ?_
  refine lv_iload_n hx hb dX5_melt_1 rfl (lv_at hl9 1 rfl) ?_
  exact z_callB (As := [.int (v)]) (rest := []) (wc := [(o, .inr (6, hsF ad lo))]) (zW_k ea mi sa) hW Z Mz9 hA hE (ch_steelAt_bad l hfl D T ea mi sa o ad lo  v hv9) (cwV 1 hts gX5_melt_X5_steelAt rfl rfl rfl (by decide +kernel) ⟨Nat.le_of_ble_eq_true rfl, Nat.le_of_ble_eq_true rfl⟩) [0] rfl (by decide) (va_recv Z.2.1 Mz9.1 (ci := 6) (q0 := 0) rfl rfl) rfl hl9.1 (Nat.le_of_ble_eq_true rfl) dX5_melt_2 ⟨Nat.le_of_ble_eq_true rfl, Nat.le_of_ble_eq_true rfl⟩ ⟨Nat.le_of_ble_eq_true rfl, Nat.le_of_ble_eq_true rfl⟩ rfl rfl
set_option maxHeartbeats 4000000 in
set_option maxRecDepth 100000 in
theorem ch_melt_w (l : Launch) (hfl : l.stackTraces = false) (D : va_G) (T : Nat → ClassId) (ea mi : Nat) (sa : Nat → Nat) (o : Nat) (ad : Nat → Nat) (lo : Int32) (fs : Nat → Option Nat) (u j : Nat) (hj : j < 4) (hf : fs j = some u) (km : Int32) (rm gm : Nat) (h4 : 20 ≤ gm) (h5 : gm < 2 ^ 31) : ZB l yX5_melt wsX5_melt (zrmc 6 82 1 6) (zW ea mi sa) D T [(o, .inr (6, hsF ad lo)), (ad 1, .inl (T 4, 4, qa fs)), (ad 6, .inr (0, [.int (km), .ref rm, .int (nI (gm))]))] [.ref o, .int (nI (j))] "java/lang/IllegalStateException" := by
  refine z_inB (cc := cX5_melt) (maxL := 4) (ret := (some .int)) (by decide +kernel) rfl (Nat.le_of_ble_eq_true rfl) ?_
  intro p e s m args below meth c sl9 A hA Z hW Mz9 hl9 hE
  have Z : zC p s m args c cX5_melt 4 RX5 wsX5_melt D T A := Z
  have hx := Z.1.1
  have hb := Z.1.2.1
  have hts := Z.1.2.2.2.2
  have hin5 : ∀ w ∈ wsX50, w ∈ wsX5_melt := by decide +kernel
  have hinL : ∀ w ∈ wsJx4a65c0, w ∈ wsX5_melt := by decide +kernel
  have hX9 : ∀ w ∈ Cond.classLink RX5 76 "java/lang/IllegalStateException" :: Cond.initialized "java/lang/IllegalStateException" :: (vx_atS RX5 80 "java/lang/IllegalStateException" zNm).filter goodWord, w ∈ wsX5_melt := by decide +kernel
  have L18 := hts (.fieldLink RX5 18 "AnvilHouse" "melts" "Ljava/util/ArrayList;") (by decide +kernel)
  have hl9 : lv_has sl9 4 [(0, .ref o), (1, .int (nI (j)))] := hl9
  refine lv_aload_n hx hb dX5_melt_0 rfl (lv_at hl9 0 rfl) ?_
  refine lv_iload_n hx hb dX5_melt_1 rfl (lv_at hl9 1 rfl) ?_
  refine z_callVr (As := [.int (nI (j))]) (rest := []) (wc := [(o, .inr (6, hsF ad lo)), (ad 1, .inl (T 4, 4, qa fs))]) Z Mz9 (ch_steelAt l D T o ad lo fs u (j) hj hf) (cwV 1 hts gX5_melt_X5_steelAt rfl rfl rfl (by decide +kernel) ⟨Nat.le_of_ble_eq_true rfl, Nat.le_of_ble_eq_true rfl⟩) [0, 1] rfl (by decide) (fun _ j hj => rfl) (fun _ => Nat.le_refl _) (va_recv Z.2.1 Mz9.1 (ci := 6) (q0 := 0) rfl rfl) rfl hl9.1 (Nat.le_of_ble_eq_true rfl) dX5_melt_2 ⟨Nat.le_of_ble_eq_true rfl, Nat.le_of_ble_eq_true rfl⟩ rfl (fun _ Hp9 lc9 Mz9 => ?_)
  have Mz9 : zM D A s.heap [(o, .inr (6, hsF ad lo)), (ad 1, .inl (T 4, 4, qa fs)), (ad 6, .inr (0, [.int (km), .ref rm, .int (nI (gm))]))] _ _ := Mz9
  refine lv_astore_n (lv' := [(2, .ref u), (0, .ref o), (1, .int (nI (j)))]) hx hb dX5_melt_5 rfl hl9 (by decide) rfl (fun sl9 hl9 => ?_)
  refine lv_aload_n hx hb dX5_melt_6 rfl (lv_at hl9 1 rfl) ?_
  refine z_getf Z Mz9 hin5 0 rfl rfl 1 (by decide) L18 rfl (v := .ref (ad 6)) rfl dX5_melt_7 ?_
  refine z_callVi (As := []) (rest := []) (rv := nI (gm)) (wc := leW (ad 6) (.ref rm) km (nI (gm))) (wc' := leW (ad 6) (.ref rm) km (nI (gm))) Z Mz9 (cl_size l D T (ad 6) (.ref rm) km (nI (gm))) (cwV 0 hts gX5_melt_Jx4a65c_size_8abf5 rfl rfl rfl (by decide +kernel) ⟨Nat.le_of_ble_eq_true rfl, Nat.le_of_ble_eq_true rfl⟩) [2] rfl (by decide) (fun j hj => rfl) (Nat.le_refl _) (va_recv Z.2.1 Mz9.1 (ci := 0) (q0 := 2) rfl rfl) rfl hl9.1 (Nat.le_of_ble_eq_true rfl) dX5_melt_10 ⟨Nat.le_of_ble_eq_true rfl, Nat.le_of_ble_eq_true rfl⟩ rfl (fun Hp9 lc9 Mz9 => ?_)
  have Mz9 : zM D A s.heap [(o, .inr (6, hsF ad lo)), (ad 1, .inl (T 4, 4, qa fs)), (ad 6, .inr (0, [.int (km), .ref rm, .int (nI (gm))]))] _ _ := Mz9
  refine lv_istore_n (lv' := [(3, .int (nI (gm))), (2, .ref u), (0, .ref o), (1, .int (nI (j)))]) hx hb dX5_melt_13 rfl hl9 (by decide) rfl (fun sl9 hl9 => ?_)
  refine lv_iload_n hx hb dX5_melt_14 rfl (lv_at hl9 0 rfl) ?_
  refine lv_bipush (v := 20) hx hb dX5_melt_15 (by decide) ?_
  refine zn_icmp_lt (a := gm) (b := 20) (tgt := 30) (by omega) (by decide) hx hb dX5_melt_17 (by decide) (fun h => absurd h (by omega)) (fun _ => ?_)
  exact z_throw Z hW Mz9 hA hE hl9.1 hfl zThr_S hX9 (is := 78) (text := "there are 20 melts") (by decide +kernel) dX5_melt_20 dX5_melt_23 dX5_melt_24 dX5_melt_26 dX5_melt_29 (Nat.le_of_ble_eq_true rfl) (Nat.le_of_ble_eq_true rfl) ⟨Nat.le_of_ble_eq_true rfl, Nat.le_of_ble_eq_true rfl⟩ ⟨Nat.le_of_ble_eq_true rfl, Nat.le_of_ble_eq_true rfl⟩ rfl
set_option maxHeartbeats 4000000 in
set_option maxRecDepth 100000 in
theorem ch_billet_e (l : Launch) (D : va_G) (T : Nat → ClassId) (ea mi : Nat) (sa : Nat → Nat) (o : Nat) (ad : Nat → Nat) (lo : Int32) (km : Int32) (rm nm gm : Nat) (fm : Nat → Option Nat) (u m9 : Nat) (v : Int32) (hm : m9 < gm) (hmg : gm ≤ nm) (hmn : nm ≤ 40000) (hfm : fm m9 = some u) (h1 : ¬ v < 2) (h2 : v ≤ 200) (τ : Nat → Int32) (kb : Int32) : ZIH l yX5_billet wsX5_billet (zrmc 5 151 4 44) (zW ea mi sa) D T (S := Nat × Nat × Nat × Nat) [(o, .inr (6, hsF ad lo)), (ad 6, .inr (0, [.int (km), .ref rm, .int (nI (gm))])), (rm, .inl (T 3, nm, qa fm)), (u, .inr (5, [.int (τ 0), .int (τ 1), .int (τ 2)])), (ad 7, .inr (0, [.int (kb), .ref ea, .int 0]))] (fun w9 => [(o, .inr (6, hsF ad lo)), (ad 6, .inr (0, [.int (km), .ref rm, .int (nI (gm))])), (rm, .inl (T 3, nm, qa fm)), (u, .inr (5, [.int (τ 0), .int (τ 1), .int (τ 2)])), (ad 7, .inr (0, [.int (kb + 1), .ref w9.2.2.2, .int 1])), (w9.1, .inr (1, biF w9.2.1 w9.2.2.1 u (nwB m9 v))), (w9.2.1, .inl (T 0, 8, .inl (fi0 (fun _ => 0) v 8))), (w9.2.2.1, .inl (T 0, 8, .inl (fun _ => 0))), (w9.2.2.2, .inl (T 3, 10, qa (va_up (fun _ => none) 0 (some w9.1))))]) [.ref o, .int (nI (m9)), .int (v)] (0) 4 44 := by
  refine z_inIH (cc := cX5_billet) (maxL := 4) (rt := .int) (by decide +kernel) rfl (Nat.le_of_ble_eq_true rfl) ?_
  intro p e s m args below meth c sl9 A Q Z hW hnm Mz9 hl9 hret
  have Z : zC p s m args c cX5_billet 4 RX5 wsX5_billet D T A := Z
  have hx := Z.1.1
  have hb := Z.1.2.1
  have hts := Z.1.2.2.2.2
  have hin5 : ∀ w ∈ wsX50, w ∈ wsX5_billet := by decide +kernel
  have hinL : ∀ w ∈ wsJx4a65c0, w ∈ wsX5_billet := by decide +kernel
  have hin0 : ∀ w ∈ wsX00, w ∈ wsX5_billet := by decide +kernel
  have L18 := hts (.fieldLink RX5 18 "AnvilHouse" "melts" "Ljava/util/ArrayList;") (by decide +kernel)
  have L22 := hts (.fieldLink RX5 22 "AnvilHouse" "billets" "Ljava/util/ArrayList;") (by decide +kernel)
  have hl9 : lv_has sl9 4 [(0, .ref o), (1, .int (nI (m9))), (2, .int (v))] := hl9
  refine lv_iload_n hx hb dX5_billet_0 rfl (lv_at hl9 1 rfl) ?_
  refine zn_if_lt (a := m9) (tgt := 15) (by omega) hx hb dX5_billet_1 (by decide) (fun h => absurd h (fun h => h)) (fun _ => ?_)
  refine lv_iload_n hx hb dX5_billet_4 rfl (lv_at hl9 1 rfl) ?_
  refine lv_aload_n hx hb dX5_billet_5 rfl (lv_at hl9 0 rfl) ?_
  refine z_getf Z Mz9 hin5 0 rfl rfl 1 (by decide) L18 rfl (v := .ref (ad 6)) rfl dX5_billet_6 ?_
  refine z_callVi (As := []) (rest := [.int (nI (m9))]) (rv := nI (gm)) (wc := leW (ad 6) (.ref rm) km (nI (gm))) (wc' := leW (ad 6) (.ref rm) km (nI (gm))) Z Mz9 (cl_size l D T (ad 6) (.ref rm) km (nI (gm))) (cwV 0 hts gX5_billet_Jx4a65c_size_8abf5 rfl rfl rfl (by decide +kernel) ⟨Nat.le_of_ble_eq_true rfl, Nat.le_of_ble_eq_true rfl⟩) [1] rfl (by decide) (fun j hj => rfl) (Nat.le_refl _) (va_recv Z.2.1 Mz9.1 (ci := 0) (q0 := 1) rfl rfl) rfl hl9.1 (Nat.le_of_ble_eq_true rfl) dX5_billet_9 ⟨Nat.le_of_ble_eq_true rfl, Nat.le_of_ble_eq_true rfl⟩ rfl (fun Hp9 lc9 Mz9 => ?_)
  have Mz9 : zM D A s.heap [(o, .inr (6, hsF ad lo)), (ad 6, .inr (0, [.int (km), .ref rm, .int (nI (gm))])), (rm, .inl (T 3, nm, qa fm)), (u, .inr (5, [.int (τ 0), .int (τ 1), .int (τ 2)])), (ad 7, .inr (0, [.int (kb), .ref ea, .int 0]))] _ _ := Mz9
  refine zn_icmp_lt (a := m9) (b := gm) (tgt := 25) (by omega) (by omega) hx hb dX5_billet_12 (by decide) (fun _ => ?_) (fun h => absurd h (by omega))
  refine lv_iload_n hx hb dX5_billet_25 rfl (lv_at hl9 2 rfl) ?_
  refine lv_iconst (v := 2) hx hb dX5_billet_26 (by decide) ?_
  refine lv_icmp_lt (tgt := 37) hx hb dX5_billet_27 (by decide) (fun h => absurd h (h1)) (fun _ => ?_)
  refine lv_iload_n hx hb dX5_billet_30 rfl (lv_at hl9 2 rfl) ?_
  refine lv_sipush (v := 200) hx hb dX5_billet_31 (by decide) ?_
  refine lv_icmp_le (tgt := 47) hx hb dX5_billet_34 (by decide) (fun _ => ?_) (fun h => absurd h (fun z => z h2))
  refine lv_aload_n hx hb dX5_billet_47 rfl (lv_at hl9 0 rfl) ?_
  refine z_getf Z Mz9 hin5 0 rfl rfl 2 (by decide) L22 rfl (v := .ref (ad 7)) rfl dX5_billet_48 ?_
  refine z_callVi (As := []) (rest := []) (rv := 0) (wc := leW (ad 7) (.ref ea) kb 0) (wc' := leW (ad 7) (.ref ea) kb 0) Z Mz9 (cl_size l D T (ad 7) (.ref ea) kb 0) (cwV 0 hts gX5_billet_Jx4a65c_size_8abf5 rfl rfl rfl (by decide +kernel) ⟨Nat.le_of_ble_eq_true rfl, Nat.le_of_ble_eq_true rfl⟩) [4] rfl (by decide) (fun j hj => rfl) (Nat.le_refl _) (va_recv Z.2.1 Mz9.1 (ci := 0) (q0 := 4) rfl rfl) rfl hl9.1 (Nat.le_of_ble_eq_true rfl) dX5_billet_51 ⟨Nat.le_of_ble_eq_true rfl, Nat.le_of_ble_eq_true rfl⟩ rfl (fun Hp9 lc9 Mz9 => ?_)
  have Mz9 : zM D A s.heap [(o, .inr (6, hsF ad lo)), (ad 6, .inr (0, [.int (km), .ref rm, .int (nI (gm))])), (rm, .inl (T 3, nm, qa fm)), (u, .inr (5, [.int (τ 0), .int (τ 1), .int (τ 2)])), (ad 7, .inr (0, [.int (kb), .ref ea, .int 0]))] _ _ := Mz9
  refine lv_istore_n (lv' := [(3, .int 0), (0, .ref o), (1, .int (nI (m9))), (2, .int (v))]) hx hb dX5_billet_54 rfl hl9 (by decide) rfl (fun sl9 hl9 => ?_)
  refine lv_iload_n hx hb dX5_billet_55 rfl (lv_at hl9 0 rfl) ?_
  refine lv_bipush (v := 12) hx hb dX5_billet_56 (by decide) ?_
  refine lv_icmp_lt (tgt := 71) hx hb dX5_billet_58 (by decide) (fun _ => ?_) (fun h => absurd h (by decide))
  refine lv_aload_n hx hb dX5_billet_71 rfl (lv_at hl9 1 rfl) ?_
  refine z_getf Z Mz9 hin5 0 rfl rfl 2 (by decide) L22 rfl (v := .ref (ad 7)) rfl dX5_billet_72 ?_
  refine z_new Z Mz9 hin0 tyX0 tyX0_ok (hts (.classLink RX5 94 RX0) (by decide +kernel)) (hts (.instantiable RX0 18) (by decide +kernel)) (hts (.initialized RX0) (by decide +kernel)) (ci := 1) rfl [.int 0, .null, .null, .int 0, .int 0, .int 0, .int 0, .int 0, .int 0, .int 0, .int 0, .int 0, .int 0, .int 0, .int 0, .null, .int 0, .int 0] (by decide +kernel) (Nat.le_of_ble_eq_true rfl) (Nat.le_of_ble_eq_true rfl) dX5_billet_75 (fun x9 Hp9 Mz9 => ?_)
  have Mz9 : zM D A s.heap [(o, .inr (6, hsF ad lo)), (ad 6, .inr (0, [.int (km), .ref rm, .int (nI (gm))])), (rm, .inl (T 3, nm, qa fm)), (u, .inr (5, [.int (τ 0), .int (τ 1), .int (τ 2)])), (ad 7, .inr (0, [.int (kb), .ref ea, .int 0])), (x9, .inr (1, [.int 0, .null, .null, .int 0, .int 0, .int 0, .int 0, .int 0, .int 0, .int 0, .int 0, .int 0, .int 0, .int 0, .int 0, .null, .int 0, .int 0]))] Hp9 _ := Mz9
  refine lv_dup hx hb dX5_billet_78 rfl ?_
  refine lv_iload_n hx hb dX5_billet_79 rfl (lv_at hl9 2 rfl) ?_
  refine lv_aload_n hx hb dX5_billet_80 rfl (lv_at hl9 1 rfl) ?_
  refine z_getf Z Mz9 hin5 0 rfl rfl 1 (by decide) L18 rfl (v := .ref (ad 6)) rfl dX5_billet_81 ?_
  refine lv_iload_n hx hb dX5_billet_84 rfl (lv_at hl9 2 rfl) ?_
  refine z_callVr (As := [.int (nI (m9))]) (rest := [.int (nI (m9)), .ref x9, .ref x9, .ref (ad 7)]) (wc := liW (ad 6) rm nm T km (nI (gm)) fm) Z Mz9 (cl_get l D T (ad 6) rm nm (m9) u gm km fm hm hmg (by omega) hfm) (cwV 1 hts gX5_billet_Jx4a65c_get_915e3 rfl rfl rfl (by decide +kernel) ⟨Nat.le_of_ble_eq_true rfl, Nat.le_of_ble_eq_true rfl⟩) [1, 2] rfl (by decide) (fun _ j hj => rfl) (fun _ => Nat.le_refl _) (va_recv Z.2.1 Mz9.1 (ci := 0) (q0 := 1) rfl rfl) rfl hl9.1 (Nat.le_of_ble_eq_true rfl) dX5_billet_85 ⟨Nat.le_of_ble_eq_true rfl, Nat.le_of_ble_eq_true rfl⟩ rfl (fun _ Hp9 lc9 Mz9 => ?_)
  have Mz9 : zM D A s.heap [(o, .inr (6, hsF ad lo)), (ad 6, .inr (0, [.int (km), .ref rm, .int (nI (gm))])), (rm, .inl (T 3, nm, qa fm)), (u, .inr (5, [.int (τ 0), .int (τ 1), .int (τ 2)])), (ad 7, .inr (0, [.int (kb), .ref ea, .int 0])), (x9, .inr (1, [.int 0, .null, .null, .int 0, .int 0, .int 0, .int 0, .int 0, .int 0, .int 0, .int 0, .int 0, .int 0, .int 0, .int 0, .null, .int 0, .int 0]))] _ _ := Mz9
  refine va_castS hx hb Z.1.2.2.2.1 (hts (.classLink RX5 9 RX4) (by decide +kernel)) (Z.2.1.1 5 (RX4, TX4, 3) rfl).2 (va_recv Z.2.1 Mz9.1 (ci := 5) (q0 := 3) rfl rfl) dX5_billet_88 ?_
  refine lv_iload_n hx hb dX5_billet_91 rfl (lv_at hl9 3 rfl) ?_
  refine z_callGi (As := [.int (nI (m9)), .ref u, .int (v)]) (rest := [.ref x9, .ref (ad 7)]) (wc := [(x9, .inr (1, [.int 0, .null, .null, .int 0, .int 0, .int 0, .int 0, .int 0, .int 0, .int 0, .int 0, .int 0, .int 0, .int 0, .int 0, .null, .int 0, .int 0]))]) Z Mz9 (cb_initX0 l D T x9 u (nI (m9)) v) ⟨callB_of 3 hts gX5_billet_X0_init rfl rfl rfl (hts (.initialized RX0) (by decide +kernel)) (hts (.methodLink RX5 100 yX0_init) (by decide +kernel)) (by decide +kernel) ⟨Nat.le_of_ble_eq_true rfl, Nat.le_of_ble_eq_true rfl⟩, rfl, hts (.instanceMethod yX0_init) (by decide +kernel)⟩ [5] rfl (by decide) (fun _ j hj => by have hj : j < 1 := hj; obtain rfl : j = 0 := (by omega); rfl) (fun _ => Nat.le_of_ble_eq_true rfl) rfl hl9.1 (Nat.le_of_ble_eq_true rfl) dX5_billet_92 ⟨Nat.le_of_ble_eq_true rfl, Nat.le_of_ble_eq_true rfl⟩ rfl (fun u9 Hp9 lc9 Mz9 => ?_)
  obtain ⟨b1, b2⟩ := u9
  have Mz9 : zM D A s.heap [(o, .inr (6, hsF ad lo)), (ad 6, .inr (0, [.int (km), .ref rm, .int (nI (gm))])), (rm, .inl (T 3, nm, qa fm)), (u, .inr (5, [.int (τ 0), .int (τ 1), .int (τ 2)])), (ad 7, .inr (0, [.int (kb), .ref ea, .int 0])), (x9, .inr (1, biF b1 b2 u (nwB m9 v))), (b1, .inl (T 0, 8, .inl (fi0 (fun _ => 0) v 8))), (b2, .inl (T 0, 8, .inl (fun _ => 0)))] _ _ := Mz9
  refine z_callViH (As := [.ref x9]) (rest := []) (rv := 1) (wc := feW (ad 7) x9 1 kb ea (biF b1 b2 u (nwB m9 v))) (zF_k _ ea) (zW_F0 hW) Z Mz9 (cl_adde l D T (ad 7) x9 ea 1 kb (biF b1 b2 u (nwB m9 v)) (RX0, TX0, 18) rfl) (cwV 1 hts gX5_billet_Jx4a65c_add_9ea2d rfl rfl rfl (by decide +kernel) ⟨Nat.le_of_ble_eq_true rfl, Nat.le_of_ble_eq_true rfl⟩) [4, 5] rfl (by decide) fe2_f (fun _ => Nat.le_of_ble_eq_true rfl) (va_recv Z.2.1 Mz9.1 (ci := 0) (q0 := 4) rfl rfl) rfl hl9.1 (Nat.le_of_ble_eq_true rfl) dX5_billet_95 ⟨Nat.le_of_ble_eq_true rfl, Nat.le_of_ble_eq_true rfl⟩ rfl (fun q9 Hp9 lc9 Mz9 => ?_)
  have Mz9 : zM D A s.heap [(o, .inr (6, hsF ad lo)), (ad 6, .inr (0, [.int (km), .ref rm, .int (nI (gm))])), (rm, .inl (T 3, nm, qa fm)), (u, .inr (5, [.int (τ 0), .int (τ 1), .int (τ 2)])), (ad 7, .inr (0, [.int (kb + 1), .ref q9, .int 1])), (x9, .inr (1, biF b1 b2 u (nwB m9 v))), (b1, .inl (T 0, 8, .inl (fi0 (fun _ => 0) v 8))), (b2, .inl (T 0, 8, .inl (fun _ => 0))), (q9, .inl (T 3, 10, qa (va_up (fun _ => none) 0 (some x9))))] _ _ := Mz9
  refine lv_pop hx hb dX5_billet_98 rfl ?_
  refine lv_iload_n hx hb dX5_billet_99 rfl (lv_at hl9 0 rfl) ?_
  exact hret _ _ _ _ _ sl9 _ _ (x9, b1, b2, q9) Mz9 (rfl) (rfl) (rfl) (Nat.le_of_ble_eq_true rfl) (Nat.le_of_ble_eq_true rfl) dX5_billet_100
set_option maxHeartbeats 4000000 in
set_option maxRecDepth 100000 in
theorem ch_billet_r (l : Launch) (D : va_G) (T : Nat → ClassId) (ea mi : Nat) (sa : Nat → Nat) (o : Nat) (ad : Nat → Nat) (lo : Int32) (km : Int32) (rm nm gm : Nat) (fm : Nat → Option Nat) (u m9 : Nat) (v : Int32) (hm : m9 < gm) (hmg : gm ≤ nm) (hmn : nm ≤ 40000) (hfm : fm m9 = some u) (h1 : ¬ v < 2) (h2 : v ≤ 200) (τ : Nat → Int32) (kb : Int32) (rb n g : Nat) (fb : Nat → Option Nat) (h12 : g < 12) (hgn : g < n) (hn : n ≤ 40000) : ZIH l yX5_billet wsX5_billet (zrmc 3 64 3 34) (zW ea mi sa) D T (S := Nat × Nat × Nat) [(o, .inr (6, hsF ad lo)), (ad 6, .inr (0, [.int (km), .ref rm, .int (nI (gm))])), (rm, .inl (T 3, nm, qa fm)), (u, .inr (5, [.int (τ 0), .int (τ 1), .int (τ 2)])), (ad 7, .inr (0, [.int (kb), .ref rb, .int (nI (g))])), (rb, .inl (T 3, n, qa fb))] (fun w9 => [(o, .inr (6, hsF ad lo)), (ad 6, .inr (0, [.int (km), .ref rm, .int (nI (gm))])), (rm, .inl (T 3, nm, qa fm)), (u, .inr (5, [.int (τ 0), .int (τ 1), .int (τ 2)])), (ad 7, .inr (0, [.int (kb + 1), .ref rb, .int (nI (g + 1))])), (rb, .inl (T 3, n, qa (va_up fb g (some w9.1)))), (w9.1, .inr (1, biF w9.2.1 w9.2.2 u (nwB m9 v))), (w9.2.1, .inl (T 0, 8, .inl (fi0 (fun _ => 0) v 8))), (w9.2.2, .inl (T 0, 8, .inl (fun _ => 0)))]) [.ref o, .int (nI (m9)), .int (v)] (nI g) 3 34 := by
  refine z_inIH (cc := cX5_billet) (maxL := 4) (rt := .int) (by decide +kernel) rfl (Nat.le_of_ble_eq_true rfl) ?_
  intro p e s m args below meth c sl9 A Q Z hW hnm Mz9 hl9 hret
  have Z : zC p s m args c cX5_billet 4 RX5 wsX5_billet D T A := Z
  have hx := Z.1.1
  have hb := Z.1.2.1
  have hts := Z.1.2.2.2.2
  have hin5 : ∀ w ∈ wsX50, w ∈ wsX5_billet := by decide +kernel
  have hinL : ∀ w ∈ wsJx4a65c0, w ∈ wsX5_billet := by decide +kernel
  have hin0 : ∀ w ∈ wsX00, w ∈ wsX5_billet := by decide +kernel
  have L18 := hts (.fieldLink RX5 18 "AnvilHouse" "melts" "Ljava/util/ArrayList;") (by decide +kernel)
  have L22 := hts (.fieldLink RX5 22 "AnvilHouse" "billets" "Ljava/util/ArrayList;") (by decide +kernel)
  have hl9 : lv_has sl9 4 [(0, .ref o), (1, .int (nI (m9))), (2, .int (v))] := hl9
  refine lv_iload_n hx hb dX5_billet_0 rfl (lv_at hl9 1 rfl) ?_
  refine zn_if_lt (a := m9) (tgt := 15) (by omega) hx hb dX5_billet_1 (by decide) (fun h => absurd h (fun h => h)) (fun _ => ?_)
  refine lv_iload_n hx hb dX5_billet_4 rfl (lv_at hl9 1 rfl) ?_
  refine lv_aload_n hx hb dX5_billet_5 rfl (lv_at hl9 0 rfl) ?_
  refine z_getf Z Mz9 hin5 0 rfl rfl 1 (by decide) L18 rfl (v := .ref (ad 6)) rfl dX5_billet_6 ?_
  refine z_callVi (As := []) (rest := [.int (nI (m9))]) (rv := nI (gm)) (wc := leW (ad 6) (.ref rm) km (nI (gm))) (wc' := leW (ad 6) (.ref rm) km (nI (gm))) Z Mz9 (cl_size l D T (ad 6) (.ref rm) km (nI (gm))) (cwV 0 hts gX5_billet_Jx4a65c_size_8abf5 rfl rfl rfl (by decide +kernel) ⟨Nat.le_of_ble_eq_true rfl, Nat.le_of_ble_eq_true rfl⟩) [1] rfl (by decide) (fun j hj => rfl) (Nat.le_refl _) (va_recv Z.2.1 Mz9.1 (ci := 0) (q0 := 1) rfl rfl) rfl hl9.1 (Nat.le_of_ble_eq_true rfl) dX5_billet_9 ⟨Nat.le_of_ble_eq_true rfl, Nat.le_of_ble_eq_true rfl⟩ rfl (fun Hp9 lc9 Mz9 => ?_)
  have Mz9 : zM D A s.heap [(o, .inr (6, hsF ad lo)), (ad 6, .inr (0, [.int (km), .ref rm, .int (nI (gm))])), (rm, .inl (T 3, nm, qa fm)), (u, .inr (5, [.int (τ 0), .int (τ 1), .int (τ 2)])), (ad 7, .inr (0, [.int (kb), .ref rb, .int (nI (g))])), (rb, .inl (T 3, n, qa fb))] _ _ := Mz9
  refine zn_icmp_lt (a := m9) (b := gm) (tgt := 25) (by omega) (by omega) hx hb dX5_billet_12 (by decide) (fun _ => ?_) (fun h => absurd h (by omega))
  refine lv_iload_n hx hb dX5_billet_25 rfl (lv_at hl9 2 rfl) ?_
  refine lv_iconst (v := 2) hx hb dX5_billet_26 (by decide) ?_
  refine lv_icmp_lt (tgt := 37) hx hb dX5_billet_27 (by decide) (fun h => absurd h (h1)) (fun _ => ?_)
  refine lv_iload_n hx hb dX5_billet_30 rfl (lv_at hl9 2 rfl) ?_
  refine lv_sipush (v := 200) hx hb dX5_billet_31 (by decide) ?_
  refine lv_icmp_le (tgt := 47) hx hb dX5_billet_34 (by decide) (fun _ => ?_) (fun h => absurd h (fun z => z h2))
  refine lv_aload_n hx hb dX5_billet_47 rfl (lv_at hl9 0 rfl) ?_
  refine z_getf Z Mz9 hin5 0 rfl rfl 2 (by decide) L22 rfl (v := .ref (ad 7)) rfl dX5_billet_48 ?_
  refine z_callVi (As := []) (rest := []) (rv := nI (g)) (wc := leW (ad 7) (.ref rb) kb (nI (g))) (wc' := leW (ad 7) (.ref rb) kb (nI (g))) Z Mz9 (cl_size l D T (ad 7) (.ref rb) kb (nI (g))) (cwV 0 hts gX5_billet_Jx4a65c_size_8abf5 rfl rfl rfl (by decide +kernel) ⟨Nat.le_of_ble_eq_true rfl, Nat.le_of_ble_eq_true rfl⟩) [4] rfl (by decide) (fun j hj => rfl) (Nat.le_refl _) (va_recv Z.2.1 Mz9.1 (ci := 0) (q0 := 4) rfl rfl) rfl hl9.1 (Nat.le_of_ble_eq_true rfl) dX5_billet_51 ⟨Nat.le_of_ble_eq_true rfl, Nat.le_of_ble_eq_true rfl⟩ rfl (fun Hp9 lc9 Mz9 => ?_)
  have Mz9 : zM D A s.heap [(o, .inr (6, hsF ad lo)), (ad 6, .inr (0, [.int (km), .ref rm, .int (nI (gm))])), (rm, .inl (T 3, nm, qa fm)), (u, .inr (5, [.int (τ 0), .int (τ 1), .int (τ 2)])), (ad 7, .inr (0, [.int (kb), .ref rb, .int (nI (g))])), (rb, .inl (T 3, n, qa fb))] _ _ := Mz9
  refine lv_istore_n (lv' := [(3, .int (nI (g))), (0, .ref o), (1, .int (nI (m9))), (2, .int (v))]) hx hb dX5_billet_54 rfl hl9 (by decide) rfl (fun sl9 hl9 => ?_)
  refine lv_iload_n hx hb dX5_billet_55 rfl (lv_at hl9 0 rfl) ?_
  refine lv_bipush (v := 12) hx hb dX5_billet_56 (by decide) ?_
  refine zn_icmp_lt (a := g) (b := 12) (tgt := 71) (by omega) (by decide) hx hb dX5_billet_58 (by decide) (fun _ => ?_) (fun h => absurd h (by omega))
  refine lv_aload_n hx hb dX5_billet_71 rfl (lv_at hl9 1 rfl) ?_
  refine z_getf Z Mz9 hin5 0 rfl rfl 2 (by decide) L22 rfl (v := .ref (ad 7)) rfl dX5_billet_72 ?_
  refine z_new Z Mz9 hin0 tyX0 tyX0_ok (hts (.classLink RX5 94 RX0) (by decide +kernel)) (hts (.instantiable RX0 18) (by decide +kernel)) (hts (.initialized RX0) (by decide +kernel)) (ci := 1) rfl [.int 0, .null, .null, .int 0, .int 0, .int 0, .int 0, .int 0, .int 0, .int 0, .int 0, .int 0, .int 0, .int 0, .int 0, .null, .int 0, .int 0] (by decide +kernel) (Nat.le_of_ble_eq_true rfl) (Nat.le_of_ble_eq_true rfl) dX5_billet_75 (fun x9 Hp9 Mz9 => ?_)
  have Mz9 : zM D A s.heap [(o, .inr (6, hsF ad lo)), (ad 6, .inr (0, [.int (km), .ref rm, .int (nI (gm))])), (rm, .inl (T 3, nm, qa fm)), (u, .inr (5, [.int (τ 0), .int (τ 1), .int (τ 2)])), (ad 7, .inr (0, [.int (kb), .ref rb, .int (nI (g))])), (rb, .inl (T 3, n, qa fb)), (x9, .inr (1, [.int 0, .null, .null, .int 0, .int 0, .int 0, .int 0, .int 0, .int 0, .int 0, .int 0, .int 0, .int 0, .int 0, .int 0, .null, .int 0, .int 0]))] Hp9 _ := Mz9
  refine lv_dup hx hb dX5_billet_78 rfl ?_
  refine lv_iload_n hx hb dX5_billet_79 rfl (lv_at hl9 2 rfl) ?_
  refine lv_aload_n hx hb dX5_billet_80 rfl (lv_at hl9 1 rfl) ?_
  refine z_getf Z Mz9 hin5 0 rfl rfl 1 (by decide) L18 rfl (v := .ref (ad 6)) rfl dX5_billet_81 ?_
  refine lv_iload_n hx hb dX5_billet_84 rfl (lv_at hl9 2 rfl) ?_
  refine z_callVr (As := [.int (nI (m9))]) (rest := [.int (nI (m9)), .ref x9, .ref x9, .ref (ad 7)]) (wc := liW (ad 6) rm nm T km (nI (gm)) fm) Z Mz9 (cl_get l D T (ad 6) rm nm (m9) u gm km fm hm hmg (by omega) hfm) (cwV 1 hts gX5_billet_Jx4a65c_get_915e3 rfl rfl rfl (by decide +kernel) ⟨Nat.le_of_ble_eq_true rfl, Nat.le_of_ble_eq_true rfl⟩) [1, 2] rfl (by decide) (fun _ j hj => rfl) (fun _ => Nat.le_refl _) (va_recv Z.2.1 Mz9.1 (ci := 0) (q0 := 1) rfl rfl) rfl hl9.1 (Nat.le_of_ble_eq_true rfl) dX5_billet_85 ⟨Nat.le_of_ble_eq_true rfl, Nat.le_of_ble_eq_true rfl⟩ rfl (fun _ Hp9 lc9 Mz9 => ?_)
  have Mz9 : zM D A s.heap [(o, .inr (6, hsF ad lo)), (ad 6, .inr (0, [.int (km), .ref rm, .int (nI (gm))])), (rm, .inl (T 3, nm, qa fm)), (u, .inr (5, [.int (τ 0), .int (τ 1), .int (τ 2)])), (ad 7, .inr (0, [.int (kb), .ref rb, .int (nI (g))])), (rb, .inl (T 3, n, qa fb)), (x9, .inr (1, [.int 0, .null, .null, .int 0, .int 0, .int 0, .int 0, .int 0, .int 0, .int 0, .int 0, .int 0, .int 0, .int 0, .int 0, .null, .int 0, .int 0]))] _ _ := Mz9
  refine va_castS hx hb Z.1.2.2.2.1 (hts (.classLink RX5 9 RX4) (by decide +kernel)) (Z.2.1.1 5 (RX4, TX4, 3) rfl).2 (va_recv Z.2.1 Mz9.1 (ci := 5) (q0 := 3) rfl rfl) dX5_billet_88 ?_
  refine lv_iload_n hx hb dX5_billet_91 rfl (lv_at hl9 3 rfl) ?_
  refine z_callGi (As := [.int (nI (m9)), .ref u, .int (v)]) (rest := [.ref x9, .ref (ad 7)]) (wc := [(x9, .inr (1, [.int 0, .null, .null, .int 0, .int 0, .int 0, .int 0, .int 0, .int 0, .int 0, .int 0, .int 0, .int 0, .int 0, .int 0, .null, .int 0, .int 0]))]) Z Mz9 (cb_initX0 l D T x9 u (nI (m9)) v) ⟨callB_of 3 hts gX5_billet_X0_init rfl rfl rfl (hts (.initialized RX0) (by decide +kernel)) (hts (.methodLink RX5 100 yX0_init) (by decide +kernel)) (by decide +kernel) ⟨Nat.le_of_ble_eq_true rfl, Nat.le_of_ble_eq_true rfl⟩, rfl, hts (.instanceMethod yX0_init) (by decide +kernel)⟩ [6] rfl (by decide) (fun _ j hj => by have hj : j < 1 := hj; obtain rfl : j = 0 := (by omega); rfl) (fun _ => Nat.le_of_ble_eq_true rfl) rfl hl9.1 (Nat.le_of_ble_eq_true rfl) dX5_billet_92 ⟨Nat.le_of_ble_eq_true rfl, Nat.le_of_ble_eq_true rfl⟩ rfl (fun u9 Hp9 lc9 Mz9 => ?_)
  obtain ⟨b1, b2⟩ := u9
  have Mz9 : zM D A s.heap [(o, .inr (6, hsF ad lo)), (ad 6, .inr (0, [.int (km), .ref rm, .int (nI (gm))])), (rm, .inl (T 3, nm, qa fm)), (u, .inr (5, [.int (τ 0), .int (τ 1), .int (τ 2)])), (ad 7, .inr (0, [.int (kb), .ref rb, .int (nI (g))])), (rb, .inl (T 3, n, qa fb)), (x9, .inr (1, biF b1 b2 u (nwB m9 v))), (b1, .inl (T 0, 8, .inl (fi0 (fun _ => 0) v 8))), (b2, .inl (T 0, 8, .inl (fun _ => 0)))] _ _ := Mz9
  refine z_callViP (As := [.ref x9]) (rest := []) (rv := 1) (wc := laW (ad 7) rb n x9 1 T kb (nI (g)) fb (biF b1 b2 u (nwB m9 v))) (zCa_k _) (zWw hW (w := .castable RX0 "java/lang/Object") (by decide +kernel)) Z Mz9 (cl_add l D T (ad 7) rb n x9 1 g kb fb (biF b1 b2 u (nwB m9 v)) (RX0, TX0, 18) rfl hgn (by omega)) (cwV 1 hts gX5_billet_Jx4a65c_add_9ea2d rfl rfl rfl (by decide +kernel) ⟨Nat.le_of_ble_eq_true rfl, Nat.le_of_ble_eq_true rfl⟩) [4, 5, 6] rfl (by decide) (fun _ j hj => rfl) (fun _ => Nat.le_refl _) (va_recv Z.2.1 Mz9.1 (ci := 0) (q0 := 4) rfl rfl) rfl hl9.1 (Nat.le_of_ble_eq_true rfl) dX5_billet_95 ⟨Nat.le_of_ble_eq_true rfl, Nat.le_of_ble_eq_true rfl⟩ rfl (fun _ Hp9 lc9 Mz9 => ?_)
  have Mz9 : zM D A s.heap [(o, .inr (6, hsF ad lo)), (ad 6, .inr (0, [.int (km), .ref rm, .int (nI (gm))])), (rm, .inl (T 3, nm, qa fm)), (u, .inr (5, [.int (τ 0), .int (τ 1), .int (τ 2)])), (ad 7, .inr (0, [.int (kb + 1), .ref rb, .int (nI (g + 1))])), (rb, .inl (T 3, n, qa (va_up fb g (some x9)))), (x9, .inr (1, biF b1 b2 u (nwB m9 v))), (b1, .inl (T 0, 8, .inl (fi0 (fun _ => 0) v 8))), (b2, .inl (T 0, 8, .inl (fun _ => 0)))] _ _ := Mz9
  refine lv_pop hx hb dX5_billet_98 rfl ?_
  refine lv_iload_n hx hb dX5_billet_99 rfl (lv_at hl9 0 rfl) ?_
  exact hret _ _ _ _ _ sl9 _ _ (x9, b1, b2) Mz9 (rfl) (rfl) (rfl) (Nat.le_of_ble_eq_true rfl) (Nat.le_of_ble_eq_true rfl) dX5_billet_100
set_option maxHeartbeats 4000000 in
set_option maxRecDepth 100000 in
theorem ch_billet_f (l : Launch) (D : va_G) (T : Nat → ClassId) (ea mi : Nat) (sa : Nat → Nat) (o : Nat) (ad : Nat → Nat) (lo : Int32) (km : Int32) (rm nm gm : Nat) (fm : Nat → Option Nat) (u m9 : Nat) (v : Int32) (hm : m9 < gm) (hmg : gm ≤ nm) (hmn : nm ≤ 40000) (hfm : fm m9 = some u) (h1 : ¬ v < 2) (h2 : v ≤ 200) (τ : Nat → Int32) (kb : Int32) (rb n : Nat) (fb : Nat → Option Nat) (es : va_W) (h12 : n < 12) (h2n : 2 ≤ n) (he9 : ∀ i y : Nat, i < n → fb i = some y → ∃ (j : Nat) (vs : List Value), es[j]? = some (y, .inr (1, vs))) : ZIH l yX5_billet wsX5_billet (zrmc 7 201 4 (34 + (n + n / 2))) (zW ea mi sa) D T (S := Nat × Nat × Nat × Nat) ([(o, .inr (6, hsF ad lo)), (ad 6, .inr (0, [.int (km), .ref rm, .int (nI (gm))])), (rm, .inl (T 3, nm, qa fm)), (u, .inr (5, [.int (τ 0), .int (τ 1), .int (τ 2)])), (rb, .inl (T 3, n, qa fb)), (ad 7, .inr (0, [.int (kb), .ref rb, .int (nI (n))]))] ++ es) (fun w9 => (([(o, .inr (6, hsF ad lo)), (ad 6, .inr (0, [.int (km), .ref rm, .int (nI (gm))])), (rm, .inl (T 3, nm, qa fm)), (u, .inr (5, [.int (τ 0), .int (τ 1), .int (τ 2)])), (rb, .inl (T 3, n, qa fb)), (ad 7, .inr (0, [.int (kb + 1), .ref w9.2.2.2, .int (nI (n + 1))])), (w9.1, .inr (1, biF w9.2.1 w9.2.2.1 u (nwB m9 v)))] ++ es) ++ [(w9.2.1, .inl (T 0, 8, .inl (fi0 (fun _ => 0) v 8))), (w9.2.2.1, .inl (T 0, 8, .inl (fun _ => 0))), (w9.2.2.2, .inl (T 3, (n + n / 2), qa (va_up (va_cpy fb (fun _ => none) 0 0 n) n (some w9.1))))])) [.ref o, .int (nI (m9)), .int (v)] (nI n) 4 (34 + (n + n / 2)) := by
  refine z_inIH (cc := cX5_billet) (maxL := 4) (rt := .int) (by decide +kernel) rfl (Nat.le_of_ble_eq_true rfl) ?_
  intro p e s m args below meth c sl9 A Q Z hW hnm Mz9 hl9 hret
  have Z : zC p s m args c cX5_billet 4 RX5 wsX5_billet D T A := Z
  have hx := Z.1.1
  have hb := Z.1.2.1
  have hts := Z.1.2.2.2.2
  have hin5 : ∀ w ∈ wsX50, w ∈ wsX5_billet := by decide +kernel
  have hinL : ∀ w ∈ wsJx4a65c0, w ∈ wsX5_billet := by decide +kernel
  have hin0 : ∀ w ∈ wsX00, w ∈ wsX5_billet := by decide +kernel
  have L18 := hts (.fieldLink RX5 18 "AnvilHouse" "melts" "Ljava/util/ArrayList;") (by decide +kernel)
  have L22 := hts (.fieldLink RX5 22 "AnvilHouse" "billets" "Ljava/util/ArrayList;") (by decide +kernel)
  have hl9 : lv_has sl9 4 [(0, .ref o), (1, .int (nI (m9))), (2, .int (v))] := hl9
  refine lv_iload_n hx hb dX5_billet_0 rfl (lv_at hl9 1 rfl) ?_
  refine zn_if_lt (a := m9) (tgt := 15) (by omega) hx hb dX5_billet_1 (by decide) (fun h => absurd h (fun h => h)) (fun _ => ?_)
  refine lv_iload_n hx hb dX5_billet_4 rfl (lv_at hl9 1 rfl) ?_
  refine lv_aload_n hx hb dX5_billet_5 rfl (lv_at hl9 0 rfl) ?_
  refine z_getf Z Mz9 hin5 0 rfl rfl 1 (by decide) L18 rfl (v := .ref (ad 6)) rfl dX5_billet_6 ?_
  refine z_callVi (As := []) (rest := [.int (nI (m9))]) (rv := nI (gm)) (wc := leW (ad 6) (.ref rm) km (nI (gm))) (wc' := leW (ad 6) (.ref rm) km (nI (gm))) Z Mz9 (cl_size l D T (ad 6) (.ref rm) km (nI (gm))) (cwV 0 hts gX5_billet_Jx4a65c_size_8abf5 rfl rfl rfl (by decide +kernel) ⟨Nat.le_of_ble_eq_true rfl, Nat.le_of_ble_eq_true rfl⟩) [1] rfl (by decide) (fun j hj => rfl) (Nat.le_refl _) (va_recv Z.2.1 Mz9.1 (ci := 0) (q0 := 1) rfl rfl) rfl hl9.1 (Nat.le_of_ble_eq_true rfl) dX5_billet_9 ⟨Nat.le_of_ble_eq_true rfl, Nat.le_of_ble_eq_true rfl⟩ rfl (fun Hp9 lc9 Mz9 => ?_)
  have Mz9 : zM D A s.heap ([(o, .inr (6, hsF ad lo)), (ad 6, .inr (0, [.int (km), .ref rm, .int (nI (gm))])), (rm, .inl (T 3, nm, qa fm)), (u, .inr (5, [.int (τ 0), .int (τ 1), .int (τ 2)])), (rb, .inl (T 3, n, qa fb)), (ad 7, .inr (0, [.int (kb), .ref rb, .int (nI (n))]))] ++ es) _ _ := zM_w (by simp only [z_put, List.append_nil]; rfl) Mz9
  refine zn_icmp_lt (a := m9) (b := gm) (tgt := 25) (by omega) (by omega) hx hb dX5_billet_12 (by decide) (fun _ => ?_) (fun h => absurd h (by omega))
  refine lv_iload_n hx hb dX5_billet_25 rfl (lv_at hl9 2 rfl) ?_
  refine lv_iconst (v := 2) hx hb dX5_billet_26 (by decide) ?_
  refine lv_icmp_lt (tgt := 37) hx hb dX5_billet_27 (by decide) (fun h => absurd h (h1)) (fun _ => ?_)
  refine lv_iload_n hx hb dX5_billet_30 rfl (lv_at hl9 2 rfl) ?_
  refine lv_sipush (v := 200) hx hb dX5_billet_31 (by decide) ?_
  refine lv_icmp_le (tgt := 47) hx hb dX5_billet_34 (by decide) (fun _ => ?_) (fun h => absurd h (fun z => z h2))
  refine lv_aload_n hx hb dX5_billet_47 rfl (lv_at hl9 0 rfl) ?_
  refine z_getf Z Mz9 hin5 0 rfl rfl 2 (by decide) L22 rfl (v := .ref (ad 7)) rfl dX5_billet_48 ?_
  refine z_callVi (As := []) (rest := []) (rv := nI (n)) (wc := leW (ad 7) (.ref rb) kb (nI (n))) (wc' := leW (ad 7) (.ref rb) kb (nI (n))) Z Mz9 (cl_size l D T (ad 7) (.ref rb) kb (nI (n))) (cwV 0 hts gX5_billet_Jx4a65c_size_8abf5 rfl rfl rfl (by decide +kernel) ⟨Nat.le_of_ble_eq_true rfl, Nat.le_of_ble_eq_true rfl⟩) [5] rfl (by decide) (fun j hj => rfl) (Nat.le_refl _) (va_recv Z.2.1 Mz9.1 (ci := 0) (q0 := 5) rfl rfl) rfl hl9.1 (Nat.le_of_ble_eq_true rfl) dX5_billet_51 ⟨Nat.le_of_ble_eq_true rfl, Nat.le_of_ble_eq_true rfl⟩ rfl (fun Hp9 lc9 Mz9 => ?_)
  have Mz9 : zM D A s.heap ([(o, .inr (6, hsF ad lo)), (ad 6, .inr (0, [.int (km), .ref rm, .int (nI (gm))])), (rm, .inl (T 3, nm, qa fm)), (u, .inr (5, [.int (τ 0), .int (τ 1), .int (τ 2)])), (rb, .inl (T 3, n, qa fb)), (ad 7, .inr (0, [.int (kb), .ref rb, .int (nI (n))]))] ++ es) _ _ := zM_w (by simp only [z_put, List.append_nil]; rfl) Mz9
  refine lv_istore_n (lv' := [(3, .int (nI (n))), (0, .ref o), (1, .int (nI (m9))), (2, .int (v))]) hx hb dX5_billet_54 rfl hl9 (by decide) rfl (fun sl9 hl9 => ?_)
  refine lv_iload_n hx hb dX5_billet_55 rfl (lv_at hl9 0 rfl) ?_
  refine lv_bipush (v := 12) hx hb dX5_billet_56 (by decide) ?_
  refine zn_icmp_lt (a := n) (b := 12) (tgt := 71) (by omega) (by decide) hx hb dX5_billet_58 (by decide) (fun _ => ?_) (fun h => absurd h (by omega))
  refine lv_aload_n hx hb dX5_billet_71 rfl (lv_at hl9 1 rfl) ?_
  refine z_getf Z Mz9 hin5 0 rfl rfl 2 (by decide) L22 rfl (v := .ref (ad 7)) rfl dX5_billet_72 ?_
  refine z_new Z Mz9 hin0 tyX0 tyX0_ok (hts (.classLink RX5 94 RX0) (by decide +kernel)) (hts (.instantiable RX0 18) (by decide +kernel)) (hts (.initialized RX0) (by decide +kernel)) (ci := 1) rfl [.int 0, .null, .null, .int 0, .int 0, .int 0, .int 0, .int 0, .int 0, .int 0, .int 0, .int 0, .int 0, .int 0, .int 0, .null, .int 0, .int 0] (by decide +kernel) (Nat.le_of_ble_eq_true rfl) (show _ ≤ 34 + (n + n / 2) by omega) dX5_billet_75 (fun x9 Hp9 Mz9 => ?_)
  have Mz9 : zM D A s.heap ([(o, .inr (6, hsF ad lo)), (ad 6, .inr (0, [.int (km), .ref rm, .int (nI (gm))])), (rm, .inl (T 3, nm, qa fm)), (u, .inr (5, [.int (τ 0), .int (τ 1), .int (τ 2)])), (rb, .inl (T 3, n, qa fb)), (ad 7, .inr (0, [.int (kb), .ref rb, .int (nI (n))])), (x9, .inr (1, [.int 0, .null, .null, .int 0, .int 0, .int 0, .int 0, .int 0, .int 0, .int 0, .int 0, .int 0, .int 0, .int 0, .int 0, .null, .int 0, .int 0]))] ++ es) Hp9 _ := zM_perm (by simp only [List.cons_append, List.nil_append, List.append_assoc]; repeat (first | exact List.perm_append_singleton _ _ | apply List.Perm.cons)) Mz9
  refine lv_dup hx hb dX5_billet_78 rfl ?_
  refine lv_iload_n hx hb dX5_billet_79 rfl (lv_at hl9 2 rfl) ?_
  refine lv_aload_n hx hb dX5_billet_80 rfl (lv_at hl9 1 rfl) ?_
  refine z_getf Z Mz9 hin5 0 rfl rfl 1 (by decide) L18 rfl (v := .ref (ad 6)) rfl dX5_billet_81 ?_
  refine lv_iload_n hx hb dX5_billet_84 rfl (lv_at hl9 2 rfl) ?_
  refine z_callVr (As := [.int (nI (m9))]) (rest := [.int (nI (m9)), .ref x9, .ref x9, .ref (ad 7)]) (wc := liW (ad 6) rm nm T km (nI (gm)) fm) Z Mz9 (cl_get l D T (ad 6) rm nm (m9) u gm km fm hm hmg (by omega) hfm) (cwV 1 hts gX5_billet_Jx4a65c_get_915e3 rfl rfl rfl (by decide +kernel) ⟨Nat.le_of_ble_eq_true rfl, Nat.le_of_ble_eq_true rfl⟩) [1, 2] rfl (by decide) (fun _ j hj => rfl) (fun _ => Nat.le_refl _) (va_recv Z.2.1 Mz9.1 (ci := 0) (q0 := 1) rfl rfl) rfl hl9.1 (Nat.le_of_ble_eq_true rfl) dX5_billet_85 ⟨Nat.le_of_ble_eq_true rfl, (show _ ≤ 34 + (n + n / 2) by omega)⟩ rfl (fun _ Hp9 lc9 Mz9 => ?_)
  have Mz9 : zM D A s.heap ([(o, .inr (6, hsF ad lo)), (ad 6, .inr (0, [.int (km), .ref rm, .int (nI (gm))])), (rm, .inl (T 3, nm, qa fm)), (u, .inr (5, [.int (τ 0), .int (τ 1), .int (τ 2)])), (rb, .inl (T 3, n, qa fb)), (ad 7, .inr (0, [.int (kb), .ref rb, .int (nI (n))])), (x9, .inr (1, [.int 0, .null, .null, .int 0, .int 0, .int 0, .int 0, .int 0, .int 0, .int 0, .int 0, .int 0, .int 0, .int 0, .int 0, .null, .int 0, .int 0]))] ++ es) _ _ := zM_w (by simp only [z_put, List.append_nil]; rfl) Mz9
  refine va_castS hx hb Z.1.2.2.2.1 (hts (.classLink RX5 9 RX4) (by decide +kernel)) (Z.2.1.1 5 (RX4, TX4, 3) rfl).2 (va_recv Z.2.1 Mz9.1 (ci := 5) (q0 := 3) rfl rfl) dX5_billet_88 ?_
  refine lv_iload_n hx hb dX5_billet_91 rfl (lv_at hl9 3 rfl) ?_
  refine z_callGi (As := [.int (nI (m9)), .ref u, .int (v)]) (rest := [.ref x9, .ref (ad 7)]) (wc := [(x9, .inr (1, [.int 0, .null, .null, .int 0, .int 0, .int 0, .int 0, .int 0, .int 0, .int 0, .int 0, .int 0, .int 0, .int 0, .int 0, .null, .int 0, .int 0]))]) Z Mz9 (cb_initX0 l D T x9 u (nI (m9)) v) ⟨callB_of 3 hts gX5_billet_X0_init rfl rfl rfl (hts (.initialized RX0) (by decide +kernel)) (hts (.methodLink RX5 100 yX0_init) (by decide +kernel)) (by decide +kernel) ⟨Nat.le_of_ble_eq_true rfl, Nat.le_of_ble_eq_true rfl⟩, rfl, hts (.instanceMethod yX0_init) (by decide +kernel)⟩ [6] rfl (by decide) (fun _ j hj => by have hj : j < 1 := hj; obtain rfl : j = 0 := (by omega); rfl) (fun _ => Nat.le_of_ble_eq_true rfl) rfl hl9.1 (Nat.le_of_ble_eq_true rfl) dX5_billet_92 ⟨Nat.le_of_ble_eq_true rfl, (show _ ≤ 34 + (n + n / 2) by omega)⟩ rfl (fun u9 Hp9 lc9 Mz9 => ?_)
  obtain ⟨b1, b2⟩ := u9
  have Mz9 : zM D A s.heap (([(o, .inr (6, hsF ad lo)), (ad 6, .inr (0, [.int (km), .ref rm, .int (nI (gm))])), (rm, .inl (T 3, nm, qa fm)), (u, .inr (5, [.int (τ 0), .int (τ 1), .int (τ 2)])), (rb, .inl (T 3, n, qa fb)), (ad 7, .inr (0, [.int (kb), .ref rb, .int (nI (n))])), (x9, .inr (1, biF b1 b2 u (nwB m9 v)))] ++ es) ++ [(b1, .inl (T 0, 8, .inl (fi0 (fun _ => 0) v 8))), (b2, .inl (T 0, 8, .inl (fun _ => 0)))]) _ _ := zM_w (by simp only [z_put, List.append_assoc, List.cons_append, List.nil_append]; rfl) Mz9
  obtain ⟨is9, hp1, hp2, hp3⟩ := mid_places [(o, .inr (6, hsF ad lo)), (ad 6, .inr (0, [.int (km), .ref rm, .int (nI (gm))])), (rm, .inl (T 3, nm, qa fm)), (u, .inr (5, [.int (τ 0), .int (τ 1), .int (τ 2)]))] (grW (ad 7) rb n T kb (nI n) fb ((x9, .inr (1, biF b1 b2 u (nwB m9 v))) :: es)) [(b1, .inl (T 0, 8, .inl (fi0 (fun _ => 0) v 8))), (b2, .inl (T 0, 8, .inl (fun _ => 0)))]
  have Mz9 : zM D A s.heap ([(o, .inr (6, hsF ad lo)), (ad 6, .inr (0, [.int (km), .ref rm, .int (nI (gm))])), (rm, .inl (T 3, nm, qa fm)), (u, .inr (5, [.int (τ 0), .int (τ 1), .int (τ 2)]))] ++ (grW (ad 7) rb n T kb (nI n) fb ((x9, .inr (1, biF b1 b2 u (nwB m9 v))) :: es)) ++ [(b1, .inl (T 0, 8, .inl (fi0 (fun _ => 0) v 8))), (b2, .inl (T 0, 8, .inl (fun _ => 0)))]) _ _ := zM_w (by simp only [grW, List.append_assoc, List.cons_append, List.nil_append, List.append_nil]) Mz9
  refine z_callViP (As := [.ref x9]) (rest := []) (rv := 1) (wc := grW (ad 7) rb n T kb (nI n) fb ((x9, .inr (1, biF b1 b2 u (nwB m9 v))) :: es)) (zGr_k _ _) (zW_G hW (C := RX0) (by decide +kernel)) Z Mz9 (cl_addf l D T (ad 7) rb n x9 1 mi 0 kb fb ((x9, .inr (1, biF b1 b2 u (nwB m9 v))) :: es) (biF b1 b2 u (nwB m9 v)) (RX0, TX0, 18) rfl h2n (by omega) rfl (fun i y hi hy => es_front _ (he9 i y hi hy))) (cwV 1 hts gX5_billet_Jx4a65c_add_9ea2d rfl rfl rfl (by decide +kernel) ⟨Nat.le_of_ble_eq_true rfl, Nat.le_of_ble_eq_true rfl⟩) is9 hp1 hp2 gr2_f gr2_l (va_recv Z.2.1 Mz9.1 (ci := 0) (q0 := 5) rfl rfl) rfl hl9.1 (Nat.le_of_ble_eq_true rfl) dX5_billet_95 ⟨Nat.le_of_ble_eq_true rfl, (show _ ≤ 34 + (n + n / 2) by omega)⟩ rfl (fun q9 Hp9 lc9 Mz9 => ?_)
  have Mz9 : zM D A s.heap _ _ _ := zM_w (hp3 ((rb, .inl (T 3, n, qa fb)) :: (ad 7, .inr (0, [.int (kb + 1), .ref q9, .int (nI (n + 1))])) :: ((x9, .inr (1, biF b1 b2 u (nwB m9 v))) :: es)) [(q9, .inl (T 3, (n + n / 2), qa (va_up (va_cpy fb (fun _ => none) 0 0 n) n (some x9))))] (by rfl)) Mz9
  have Mz9 : zM D A s.heap (([(o, .inr (6, hsF ad lo)), (ad 6, .inr (0, [.int (km), .ref rm, .int (nI (gm))])), (rm, .inl (T 3, nm, qa fm)), (u, .inr (5, [.int (τ 0), .int (τ 1), .int (τ 2)])), (rb, .inl (T 3, n, qa fb)), (ad 7, .inr (0, [.int (kb + 1), .ref q9, .int (nI (n + 1))])), (x9, .inr (1, biF b1 b2 u (nwB m9 v)))] ++ es) ++ [(b1, .inl (T 0, 8, .inl (fi0 (fun _ => 0) v 8))), (b2, .inl (T 0, 8, .inl (fun _ => 0))), (q9, .inl (T 3, (n + n / 2), qa (va_up (va_cpy fb (fun _ => none) 0 0 n) n (some x9))))]) _ _ := zM_w (by simp only [List.append_assoc, List.cons_append, List.nil_append, List.append_nil]) Mz9
  refine lv_pop hx hb dX5_billet_98 rfl ?_
  refine lv_iload_n hx hb dX5_billet_99 rfl (lv_at hl9 0 rfl) ?_
  exact hret _ _ _ _ _ sl9 _ _ (x9, b1, b2, q9) Mz9 (rfl) (rfl) (rfl) (Nat.le_of_ble_eq_true rfl) (show _ ≤ 34 + (n + n / 2) by omega) dX5_billet_100
set_option maxHeartbeats 4000000 in
set_option maxRecDepth 100000 in
theorem ch_billet_b (l : Launch) (hfl : l.stackTraces = false) (D : va_G) (T : Nat → ClassId) (ea mi : Nat) (sa : Nat → Nat) (o : Nat) (ad : Nat → Nat) (lo : Int32) (km : Int32) (rm gm : Nat) (w9 v : Int32) (hv9 : w9 < 0 ∨ nI gm ≤ w9) : ZB l yX5_billet wsX5_billet (zrmc 6 82 1 6) (zW ea mi sa) D T [(o, .inr (6, hsF ad lo)), (ad 6, .inr (0, [.int (km), .ref rm, .int (nI (gm))]))] [.ref o, .int (w9), .int (v)] "java/lang/IndexOutOfBoundsException" := by
  refine z_inB (cc := cX5_billet) (maxL := 4) (ret := (some .int)) (by decide +kernel) rfl (Nat.le_of_ble_eq_true rfl) ?_
  intro p e s m args below meth c sl9 A hA Z hW Mz9 hl9 hE
  have Z : zC p s m args c cX5_billet 4 RX5 wsX5_billet D T A := Z
  have hx := Z.1.1
  have hb := Z.1.2.1
  have hts := Z.1.2.2.2.2
  have hin5 : ∀ w ∈ wsX50, w ∈ wsX5_billet := by decide +kernel
  have hinL : ∀ w ∈ wsJx4a65c0, w ∈ wsX5_billet := by decide +kernel
  have hin0 : ∀ w ∈ wsX00, w ∈ wsX5_billet := by decide +kernel
  have hX9 : ∀ w ∈ Cond.classLink RX5 85 "java/lang/IndexOutOfBoundsException" :: Cond.initialized "java/lang/IndexOutOfBoundsException" :: (vx_atS RX5 89 "java/lang/IndexOutOfBoundsException" zNm).filter goodWord, w ∈ wsX5_billet := by decide +kernel
  have L18 := hts (.fieldLink RX5 18 "AnvilHouse" "melts" "Ljava/util/ArrayList;") (by decide +kernel)
  have L22 := hts (.fieldLink RX5 22 "AnvilHouse" "billets" "Ljava/util/ArrayList;") (by decide +kernel)
  have hl9 : lv_has sl9 4 [(0, .ref o), (1, .int (w9)), (2, .int (v))] := hl9
  refine lv_iload_n hx hb dX5_billet_0 rfl (lv_at hl9 1 rfl) ?_
  refine lv_if_lt (tgt := 15) hx hb dX5_billet_1 (by decide) (fun c_1 => ?_) (fun c_1 => ?_)
  ·
    exact z_throw Z hW Mz9 hA hE hl9.1 hfl zThr_I hX9 (is := 87) (text := "no such melt") (by decide +kernel) dX5_billet_15 dX5_billet_18 dX5_billet_19 dX5_billet_21 dX5_billet_24 (Nat.le_of_ble_eq_true rfl) (Nat.le_of_ble_eq_true rfl) ⟨Nat.le_of_ble_eq_true rfl, Nat.le_of_ble_eq_true rfl⟩ ⟨Nat.le_of_ble_eq_true rfl, Nat.le_of_ble_eq_true rfl⟩ rfl
  ·
    refine lv_iload_n hx hb dX5_billet_4 rfl (lv_at hl9 1 rfl) ?_
    refine lv_aload_n hx hb dX5_billet_5 rfl (lv_at hl9 0 rfl) ?_
    refine z_getf Z Mz9 hin5 0 rfl rfl 1 (by decide) L18 rfl (v := .ref (ad 6)) rfl dX5_billet_6 ?_
    refine z_callVi (As := []) (rest := [.int (w9)]) (rv := nI (gm)) (wc := leW (ad 6) (.ref rm) km (nI (gm))) (wc' := leW (ad 6) (.ref rm) km (nI (gm))) Z Mz9 (cl_size l D T (ad 6) (.ref rm) km (nI (gm))) (cwV 0 hts gX5_billet_Jx4a65c_size_8abf5 rfl rfl rfl (by decide +kernel) ⟨Nat.le_of_ble_eq_true rfl, Nat.le_of_ble_eq_true rfl⟩) [1] rfl (by decide) (fun j hj => rfl) (Nat.le_refl _) (va_recv Z.2.1 Mz9.1 (ci := 0) (q0 := 1) rfl rfl) rfl hl9.1 (Nat.le_of_ble_eq_true rfl) dX5_billet_9 ⟨Nat.le_of_ble_eq_true rfl, Nat.le_of_ble_eq_true rfl⟩ rfl (fun Hp9 lc9 Mz9 => ?_)
    have Mz9 : zM D A s.heap [(o, .inr (6, hsF ad lo)), (ad 6, .inr (0, [.int (km), .ref rm, .int (nI (gm))]))] _ _ := Mz9
    refine lv_icmp_lt (tgt := 25) hx hb dX5_billet_12 (by decide) (fun c_2 => ?_) (fun c_2 => ?_)
    ·
      exact False.elim (by rcases hv9 with h | h <;> first | exact absurd h c_1 | exact absurd c_1 h | exact absurd h (Int32.not_lt.mpr c_1) | exact absurd (Int32.not_le.mp c_1) (Int32.not_lt.mpr h) | exact absurd c_1 (Int32.not_lt.mpr h) | exact absurd h c_2 | exact absurd c_2 h | exact absurd h (Int32.not_lt.mpr c_2) | exact absurd (Int32.not_le.mp c_2) (Int32.not_lt.mpr h) | exact absurd c_2 (Int32.not_lt.mpr h))
    ·
      exact z_throw Z hW Mz9 hA hE hl9.1 hfl zThr_I hX9 (is := 87) (text := "no such melt") (by decide +kernel) dX5_billet_15 dX5_billet_18 dX5_billet_19 dX5_billet_21 dX5_billet_24 (Nat.le_of_ble_eq_true rfl) (Nat.le_of_ble_eq_true rfl) ⟨Nat.le_of_ble_eq_true rfl, Nat.le_of_ble_eq_true rfl⟩ ⟨Nat.le_of_ble_eq_true rfl, Nat.le_of_ble_eq_true rfl⟩ rfl
set_option maxHeartbeats 4000000 in
set_option maxRecDepth 100000 in
theorem ch_billet_a (l : Launch) (hfl : l.stackTraces = false) (D : va_G) (T : Nat → ClassId) (ea mi : Nat) (sa : Nat → Nat) (o : Nat) (ad : Nat → Nat) (lo : Int32) (km : Int32) (rm gm : Nat) (m9 : Nat) (hm : m9 < gm) (hmg : gm ≤ 40000) (v : Int32) (hv9 : v < 2 ∨ 200 < v) : ZB l yX5_billet wsX5_billet (zrmc 6 82 1 6) (zW ea mi sa) D T [(o, .inr (6, hsF ad lo)), (ad 6, .inr (0, [.int (km), .ref rm, .int (nI (gm))]))] [.ref o, .int (nI (m9)), .int (v)] "java/lang/IllegalArgumentException" := by
  refine z_inB (cc := cX5_billet) (maxL := 4) (ret := (some .int)) (by decide +kernel) rfl (Nat.le_of_ble_eq_true rfl) ?_
  intro p e s m args below meth c sl9 A hA Z hW Mz9 hl9 hE
  have Z : zC p s m args c cX5_billet 4 RX5 wsX5_billet D T A := Z
  have hx := Z.1.1
  have hb := Z.1.2.1
  have hts := Z.1.2.2.2.2
  have hin5 : ∀ w ∈ wsX50, w ∈ wsX5_billet := by decide +kernel
  have hinL : ∀ w ∈ wsJx4a65c0, w ∈ wsX5_billet := by decide +kernel
  have hin0 : ∀ w ∈ wsX00, w ∈ wsX5_billet := by decide +kernel
  have hX9 : ∀ w ∈ Cond.classLink RX5 51 "java/lang/IllegalArgumentException" :: Cond.initialized "java/lang/IllegalArgumentException" :: (vx_atS RX5 55 "java/lang/IllegalArgumentException" zNm).filter goodWord, w ∈ wsX5_billet := by decide +kernel
  have L18 := hts (.fieldLink RX5 18 "AnvilHouse" "melts" "Ljava/util/ArrayList;") (by decide +kernel)
  have L22 := hts (.fieldLink RX5 22 "AnvilHouse" "billets" "Ljava/util/ArrayList;") (by decide +kernel)
  have hl9 : lv_has sl9 4 [(0, .ref o), (1, .int (nI (m9))), (2, .int (v))] := hl9
  refine lv_iload_n hx hb dX5_billet_0 rfl (lv_at hl9 1 rfl) ?_
  refine zn_if_lt (a := m9) (tgt := 15) (by omega) hx hb dX5_billet_1 (by decide) (fun h => absurd h (fun h => h)) (fun _ => ?_)
  refine lv_iload_n hx hb dX5_billet_4 rfl (lv_at hl9 1 rfl) ?_
  refine lv_aload_n hx hb dX5_billet_5 rfl (lv_at hl9 0 rfl) ?_
  refine z_getf Z Mz9 hin5 0 rfl rfl 1 (by decide) L18 rfl (v := .ref (ad 6)) rfl dX5_billet_6 ?_
  refine z_callVi (As := []) (rest := [.int (nI (m9))]) (rv := nI (gm)) (wc := leW (ad 6) (.ref rm) km (nI (gm))) (wc' := leW (ad 6) (.ref rm) km (nI (gm))) Z Mz9 (cl_size l D T (ad 6) (.ref rm) km (nI (gm))) (cwV 0 hts gX5_billet_Jx4a65c_size_8abf5 rfl rfl rfl (by decide +kernel) ⟨Nat.le_of_ble_eq_true rfl, Nat.le_of_ble_eq_true rfl⟩) [1] rfl (by decide) (fun j hj => rfl) (Nat.le_refl _) (va_recv Z.2.1 Mz9.1 (ci := 0) (q0 := 1) rfl rfl) rfl hl9.1 (Nat.le_of_ble_eq_true rfl) dX5_billet_9 ⟨Nat.le_of_ble_eq_true rfl, Nat.le_of_ble_eq_true rfl⟩ rfl (fun Hp9 lc9 Mz9 => ?_)
  have Mz9 : zM D A s.heap [(o, .inr (6, hsF ad lo)), (ad 6, .inr (0, [.int (km), .ref rm, .int (nI (gm))]))] _ _ := Mz9
  refine zn_icmp_lt (a := m9) (b := gm) (tgt := 25) (by omega) (by omega) hx hb dX5_billet_12 (by decide) (fun _ => ?_) (fun h => absurd h (by omega))
  refine lv_iload_n hx hb dX5_billet_25 rfl (lv_at hl9 2 rfl) ?_
  refine lv_iconst (v := 2) hx hb dX5_billet_26 (by decide) ?_
  refine lv_icmp_lt (tgt := 37) hx hb dX5_billet_27 (by decide) (fun c_1 => ?_) (fun c_1 => ?_)
  ·
    exact z_throw Z hW Mz9 hA hE hl9.1 hfl zThr_A hX9 (is := 90) (text := "an area is 2 to 200") (by decide +kernel) dX5_billet_37 dX5_billet_40 dX5_billet_41 dX5_billet_43 dX5_billet_46 (Nat.le_of_ble_eq_true rfl) (Nat.le_of_ble_eq_true rfl) ⟨Nat.le_of_ble_eq_true rfl, Nat.le_of_ble_eq_true rfl⟩ ⟨Nat.le_of_ble_eq_true rfl, Nat.le_of_ble_eq_true rfl⟩ rfl
  ·
    refine lv_iload_n hx hb dX5_billet_30 rfl (lv_at hl9 2 rfl) ?_
    refine lv_sipush (v := 200) hx hb dX5_billet_31 (by decide) ?_
    refine lv_icmp_le (tgt := 47) hx hb dX5_billet_34 (by decide) (fun c_2 => ?_) (fun c_2 => ?_)
    ·
      exact False.elim (by rcases hv9 with h | h <;> first | exact absurd h c_1 | exact absurd c_1 h | exact absurd h (Int32.not_lt.mpr c_1) | exact absurd (Int32.not_le.mp c_1) (Int32.not_lt.mpr h) | exact absurd c_1 (Int32.not_lt.mpr h) | exact absurd h c_2 | exact absurd c_2 h | exact absurd h (Int32.not_lt.mpr c_2) | exact absurd (Int32.not_le.mp c_2) (Int32.not_lt.mpr h) | exact absurd c_2 (Int32.not_lt.mpr h))
    ·
      exact z_throw Z hW Mz9 hA hE hl9.1 hfl zThr_A hX9 (is := 90) (text := "an area is 2 to 200") (by decide +kernel) dX5_billet_37 dX5_billet_40 dX5_billet_41 dX5_billet_43 dX5_billet_46 (Nat.le_of_ble_eq_true rfl) (Nat.le_of_ble_eq_true rfl) ⟨Nat.le_of_ble_eq_true rfl, Nat.le_of_ble_eq_true rfl⟩ ⟨Nat.le_of_ble_eq_true rfl, Nat.le_of_ble_eq_true rfl⟩ rfl
set_option maxHeartbeats 4000000 in
set_option maxRecDepth 100000 in
theorem ch_billet_w (l : Launch) (hfl : l.stackTraces = false) (D : va_G) (T : Nat → ClassId) (ea mi : Nat) (sa : Nat → Nat) (o : Nat) (ad : Nat → Nat) (lo : Int32) (km : Int32) (rm gm : Nat) (m9 : Nat) (hm : m9 < gm) (hmg : gm ≤ 40000) (v : Int32) (h1 : ¬ v < 2) (h2 : v ≤ 200) (kb : Int32) (rb g : Nat) (h12 : 12 ≤ g) (hg : g ≤ 40000) : ZB l yX5_billet wsX5_billet (zrmc 6 82 1 6) (zW ea mi sa) D T [(o, .inr (6, hsF ad lo)), (ad 6, .inr (0, [.int (km), .ref rm, .int (nI (gm))])), (ad 7, .inr (0, [.int (kb), .ref rb, .int (nI (g))]))] [.ref o, .int (nI (m9)), .int (v)] "java/lang/IllegalStateException" := by
  refine z_inB (cc := cX5_billet) (maxL := 4) (ret := (some .int)) (by decide +kernel) rfl (Nat.le_of_ble_eq_true rfl) ?_
  intro p e s m args below meth c sl9 A hA Z hW Mz9 hl9 hE
  have Z : zC p s m args c cX5_billet 4 RX5 wsX5_billet D T A := Z
  have hx := Z.1.1
  have hb := Z.1.2.1
  have hts := Z.1.2.2.2.2
  have hin5 : ∀ w ∈ wsX50, w ∈ wsX5_billet := by decide +kernel
  have hinL : ∀ w ∈ wsJx4a65c0, w ∈ wsX5_billet := by decide +kernel
  have hin0 : ∀ w ∈ wsX00, w ∈ wsX5_billet := by decide +kernel
  have hX9 : ∀ w ∈ Cond.classLink RX5 76 "java/lang/IllegalStateException" :: Cond.initialized "java/lang/IllegalStateException" :: (vx_atS RX5 80 "java/lang/IllegalStateException" zNm).filter goodWord, w ∈ wsX5_billet := by decide +kernel
  have L18 := hts (.fieldLink RX5 18 "AnvilHouse" "melts" "Ljava/util/ArrayList;") (by decide +kernel)
  have L22 := hts (.fieldLink RX5 22 "AnvilHouse" "billets" "Ljava/util/ArrayList;") (by decide +kernel)
  have hl9 : lv_has sl9 4 [(0, .ref o), (1, .int (nI (m9))), (2, .int (v))] := hl9
  refine lv_iload_n hx hb dX5_billet_0 rfl (lv_at hl9 1 rfl) ?_
  refine zn_if_lt (a := m9) (tgt := 15) (by omega) hx hb dX5_billet_1 (by decide) (fun h => absurd h (fun h => h)) (fun _ => ?_)
  refine lv_iload_n hx hb dX5_billet_4 rfl (lv_at hl9 1 rfl) ?_
  refine lv_aload_n hx hb dX5_billet_5 rfl (lv_at hl9 0 rfl) ?_
  refine z_getf Z Mz9 hin5 0 rfl rfl 1 (by decide) L18 rfl (v := .ref (ad 6)) rfl dX5_billet_6 ?_
  refine z_callVi (As := []) (rest := [.int (nI (m9))]) (rv := nI (gm)) (wc := leW (ad 6) (.ref rm) km (nI (gm))) (wc' := leW (ad 6) (.ref rm) km (nI (gm))) Z Mz9 (cl_size l D T (ad 6) (.ref rm) km (nI (gm))) (cwV 0 hts gX5_billet_Jx4a65c_size_8abf5 rfl rfl rfl (by decide +kernel) ⟨Nat.le_of_ble_eq_true rfl, Nat.le_of_ble_eq_true rfl⟩) [1] rfl (by decide) (fun j hj => rfl) (Nat.le_refl _) (va_recv Z.2.1 Mz9.1 (ci := 0) (q0 := 1) rfl rfl) rfl hl9.1 (Nat.le_of_ble_eq_true rfl) dX5_billet_9 ⟨Nat.le_of_ble_eq_true rfl, Nat.le_of_ble_eq_true rfl⟩ rfl (fun Hp9 lc9 Mz9 => ?_)
  have Mz9 : zM D A s.heap [(o, .inr (6, hsF ad lo)), (ad 6, .inr (0, [.int (km), .ref rm, .int (nI (gm))])), (ad 7, .inr (0, [.int (kb), .ref rb, .int (nI (g))]))] _ _ := Mz9
  refine zn_icmp_lt (a := m9) (b := gm) (tgt := 25) (by omega) (by omega) hx hb dX5_billet_12 (by decide) (fun _ => ?_) (fun h => absurd h (by omega))
  refine lv_iload_n hx hb dX5_billet_25 rfl (lv_at hl9 2 rfl) ?_
  refine lv_iconst (v := 2) hx hb dX5_billet_26 (by decide) ?_
  refine lv_icmp_lt (tgt := 37) hx hb dX5_billet_27 (by decide) (fun h => absurd h (h1)) (fun _ => ?_)
  refine lv_iload_n hx hb dX5_billet_30 rfl (lv_at hl9 2 rfl) ?_
  refine lv_sipush (v := 200) hx hb dX5_billet_31 (by decide) ?_
  refine lv_icmp_le (tgt := 47) hx hb dX5_billet_34 (by decide) (fun _ => ?_) (fun h => absurd h (fun z => z h2))
  refine lv_aload_n hx hb dX5_billet_47 rfl (lv_at hl9 0 rfl) ?_
  refine z_getf Z Mz9 hin5 0 rfl rfl 2 (by decide) L22 rfl (v := .ref (ad 7)) rfl dX5_billet_48 ?_
  refine z_callVi (As := []) (rest := []) (rv := nI (g)) (wc := leW (ad 7) (.ref rb) kb (nI (g))) (wc' := leW (ad 7) (.ref rb) kb (nI (g))) Z Mz9 (cl_size l D T (ad 7) (.ref rb) kb (nI (g))) (cwV 0 hts gX5_billet_Jx4a65c_size_8abf5 rfl rfl rfl (by decide +kernel) ⟨Nat.le_of_ble_eq_true rfl, Nat.le_of_ble_eq_true rfl⟩) [2] rfl (by decide) (fun j hj => rfl) (Nat.le_refl _) (va_recv Z.2.1 Mz9.1 (ci := 0) (q0 := 2) rfl rfl) rfl hl9.1 (Nat.le_of_ble_eq_true rfl) dX5_billet_51 ⟨Nat.le_of_ble_eq_true rfl, Nat.le_of_ble_eq_true rfl⟩ rfl (fun Hp9 lc9 Mz9 => ?_)
  have Mz9 : zM D A s.heap [(o, .inr (6, hsF ad lo)), (ad 6, .inr (0, [.int (km), .ref rm, .int (nI (gm))])), (ad 7, .inr (0, [.int (kb), .ref rb, .int (nI (g))]))] _ _ := Mz9
  refine lv_istore_n (lv' := [(3, .int (nI (g))), (0, .ref o), (1, .int (nI (m9))), (2, .int (v))]) hx hb dX5_billet_54 rfl hl9 (by decide) rfl (fun sl9 hl9 => ?_)
  refine lv_iload_n hx hb dX5_billet_55 rfl (lv_at hl9 0 rfl) ?_
  refine lv_bipush (v := 12) hx hb dX5_billet_56 (by decide) ?_
  refine zn_icmp_lt (a := g) (b := 12) (tgt := 71) (by omega) (by decide) hx hb dX5_billet_58 (by decide) (fun h => absurd h (by omega)) (fun _ => ?_)
  exact z_throw Z hW Mz9 hA hE hl9.1 hfl zThr_S hX9 (is := 92) (text := "there are 12 billets") (by decide +kernel) dX5_billet_61 dX5_billet_64 dX5_billet_65 dX5_billet_67 dX5_billet_70 (Nat.le_of_ble_eq_true rfl) (Nat.le_of_ble_eq_true rfl) ⟨Nat.le_of_ble_eq_true rfl, Nat.le_of_ble_eq_true rfl⟩ ⟨Nat.le_of_ble_eq_true rfl, Nat.le_of_ble_eq_true rfl⟩ rfl
