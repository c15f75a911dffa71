/-! ===== from the law's entry to its loop ===== -/
set_option maxHeartbeats 4000000 in
set_option maxRecDepth 100000 in
theorem whole_start {p : Program} {e : Env} {s : State} {m : MethodId} {below : List Frame} {meth : Method} {c : Code} (l : Launch) (hflags : l.flags = flags0) {b L : Nat} {xs : Nat → Int32} (hL : L ≤ 2560) (C0 : lw_At p s m meth c b L xs) : W p l e room_1 s m #[Value.ref b] below meth c s.heap [] 0 0 (lw_Z below #[Value.ref b] s) (entryFrame m ([Value.ref b] : List Value).toArray 7) := by
  obtain ⟨hx, hb0, hr, hml, hown, hts, hX, hbl, hlocks, hgv⟩ := id C0
  obtain ⟨D, T, hK⟩ := zl_K hts
  obtain ⟨ea, mi, sa, hXX⟩ := zl_X hts hgv
  have hfl : l.stackTraces = false := by
    unfold Launch.stackTraces
    rw [hflags]
    decide +kernel
  have hb : c.code = cL_law := hb0
  have hown : s.vm.findClass RL = some m.cls := hown
  have hbA : ¬ (fun q : Nat => s.heap.size ≤ q) b := Nat.not_le.mpr hbl
  have Z : zC p s m #[Value.ref b] c cL_law 7 RL lw_tbl D T (fun q : Nat => s.heap.size ≤ q) := ⟨⟨hx, hb, hml, hown, hts⟩, hK, fun _ h => h⟩
  have Mz9 : zM D (fun q : Nat => s.heap.size ≤ q) s.heap [] s.heap [] := ⟨fun k q h => by simp at h, ⟨fun i j p q h => by simp at h, fun k q h => by simp at h⟩, va_S.rf⟩
  have hl9 := lv_entry ([.ref b]) (n := 7) (Nat.le_of_ble_eq_true rfl)
  rw [lg_entry_eq]
  generalize (lg_sl ([.ref b]) ++ List.replicate (7 - (lg_sl ([.ref b])).length) Slot.unset).toArray = sl9 at hl9 ⊢
  have hl9 : lv_has sl9 7 [(0, .ref b)] := hl9
  refine z_new Z Mz9 zl_in5 tyX5 tyX5_ok (hts (.classLink RL 8 RX5) (List.mem_of_getElem? (i := 63) (by decide +kernel))) (hts (.instantiable RX5 8) (List.mem_of_getElem? (i := 64) (by decide +kernel))) (hts (.initialized RX5) (List.mem_of_getElem? (i := 41) (by decide +kernel))) (ci := 6) rfl [.null, .null, .null, .null, .null, .int 0, .null, .null] (by decide +kernel) (Nat.le_of_ble_eq_true rfl) (Nat.le_of_ble_eq_true rfl) dL_law_0 (fun o Hp9 Mz9 => ?_)
  refine lv_dup hx hb dL_law_3 rfl ?_
  refine z_callGiH (As := []) (rest := [.ref o]) (wc := [(o, .inr (6, [.null, .null, .null, .null, .null, .int 0, .null, .null]))]) (zW_k ea mi sa) hXX.1 Z Mz9 (cb_initX5 l D T o ea mi sa) ⟨callB_of 0 hts gT_law_X5_init rfl rfl rfl (hts (.initialized RX5) (List.mem_of_getElem? (i := 41) (by decide +kernel))) (hts (.methodLink RL 94 yX5_init) (List.mem_of_getElem? (i := 65) (by decide +kernel))) (by decide +kernel) ⟨Nat.le_of_ble_eq_true rfl, Nat.le_of_ble_eq_true rfl⟩, rfl, hts (.instanceMethod yX5_init) (List.mem_of_getElem? (i := 66) (by decide +kernel))⟩ [0] rfl (by decide) (fun _ j hj => by have hj : j < 1 := hj; obtain rfl : j = 0 := (by omega); rfl) (fun _ => Nat.le_of_ble_eq_true rfl) rfl hl9.1 (Nat.le_of_ble_eq_true rfl) dL_law_4 ⟨Nat.le_of_ble_eq_true rfl, Nat.le_of_ble_eq_true rfl⟩ rfl (fun ad Hp9 lc9 Mz9 => ?_)
  have Mz9 : zM D (fun q : Nat => s.heap.size ≤ q) s.heap (zl_5 o ea T ad) Hp9 lc9 := Mz9
  refine lv_astore_n (lv' := [(1, .ref o), (0, .ref b)]) hx hb dL_law_7 rfl hl9 (by decide) rfl (fun sl9 hl9 => ?_)
  refine z_new Z Mz9 zl_in6 tyX6 tyX6_ok (hts (.classLink RL 95 RX6) (List.mem_of_getElem? (i := 812) (by decide +kernel))) (hts (.instantiable RX6 32) (List.mem_of_getElem? (i := 813) (by decide +kernel))) (hts (.initialized RX6) (List.mem_of_getElem? (i := 48) (by decide +kernel))) (ci := 7) rfl [.null, .null, .null, .int 0, .null, .int 0, .null, .null, .null, .null, .null, .null, .null, .null, .null, .null, .null, .null, .null, .null, .null, .int 0, .null, .null, .int 0, .null, .int 0, .null, .int 0, .null, .null, .int 0] (by decide +kernel) (Nat.le_of_ble_eq_true rfl) (Nat.le_of_ble_eq_true rfl) dL_law_8 (fun om Hp9 Mz9 => ?_)
  refine lv_dup hx hb dL_law_11 rfl ?_
  refine z_callGi (As := []) (rest := [.ref om]) (wc := [(om, .inr (7, [.null, .null, .null, .int 0, .null, .int 0, .null, .null, .null, .null, .null, .null, .null, .null, .null, .null, .null, .null, .null, .null, .null, .int 0, .null, .null, .int 0, .null, .int 0, .null, .int 0, .null, .null, .int 0]))]) Z Mz9 (cb_initX6 l D T om) ⟨callB_of 0 hts gT_law_X6_init rfl rfl rfl (hts (.initialized RX6) (List.mem_of_getElem? (i := 48) (by decide +kernel))) (hts (.methodLink RL 97 yX6_init) (List.mem_of_getElem? (i := 814) (by decide +kernel))) (by decide +kernel) ⟨Nat.le_of_ble_eq_true rfl, Nat.le_of_ble_eq_true rfl⟩, rfl, hts (.instanceMethod yX6_init) (List.mem_of_getElem? (i := 815) (by decide +kernel))⟩ [16] rfl (by decide) (fun _ j hj => by have hj : j < 1 := hj; obtain rfl : j = 0 := (by omega); rfl) (fun _ => Nat.le_of_ble_eq_true rfl) rfl hl9.1 (Nat.le_of_ble_eq_true rfl) dL_law_12 ⟨Nat.le_of_ble_eq_true rfl, Nat.le_of_ble_eq_true rfl⟩ rfl (fun am Hp9 lc9 Mz9 => ?_)
  have Mz9 : zM D (fun q : Nat => s.heap.size ≤ q) s.heap (zl_5 o ea T ad ++ mW om am T σ00) Hp9 lc9 := Mz9
  refine lv_astore_n (lv' := [(2, .ref om), (1, .ref o), (0, .ref b)]) hx hb dL_law_15 rfl hl9 (by decide) rfl (fun sl9 hl9 => ?_)
  refine lv_iconst (v := 1) hx hb dL_law_16 (by decide) ?_
  refine z_newl (N := 1) Z Mz9 (hts (.arrayClass .long) (List.mem_of_getElem? (i := 1122) (by decide +kernel))) (by decide) (by decide) (by decide) (Nat.le_of_ble_eq_true rfl) (Nat.le_of_ble_eq_true rfl) dL_law_17 (fun out Hp9 Mz9 => ?_)
  have Mz9 := zl_first (out := out) (f := fun _ => 0) Mz9
  refine lv_astore_n (lv' := [(3, .ref out), (2, .ref om), (1, .ref o), (0, .ref b)]) hx hb dL_law_19 rfl hl9 (by decide) rfl (fun sl9 hl9 => ?_)
  refine lv_iconst (v := 0) hx hb dL_law_20 (by decide) ?_
  refine lv_istore (lv' := [(4, .int 0), (3, .ref out), (2, .ref om), (1, .ref o), (0, .ref b)]) hx hb dL_law_21 hl9 (by decide) rfl (fun sl9 hl9 => ?_)
  have hl9 : lv_has sl9 7 [(4, .int (nI (5 * 0))), (0, .ref b), (1, .ref o), (2, .ref om), (3, .ref out)] := lv_sub hl9 [0, 4, 3, 2, 1] rfl
  refine zl_loop (c0 := 43) (s0 := 2212) Z hfl ⟨Nat.le_of_ble_eq_true rfl, Nat.le_of_ble_eq_true rfl⟩ hXX hX hbl hbA hL ⟨Nat.le_of_ble_eq_true rfl, Nat.le_of_ble_eq_true rfl⟩ (fun ws Hp9 lc9 sl9 Mz9 => ?_) (L / 5) 0 (Nat.zero_add _) (zl_a0 o out ad) zl_J0 zl_N0 zl_N0 zl_N0 zl_r0 σ00 (fun _ => 0) _ _ _ rfl rfl zl_Inv0 Mz9 hl9
  refine lv_iconst (v := 1) hx hb dL_law_1790 (by decide) ?_
  refine va_forget (fun q hq => Mz9.2.2.2.2 q hq) ?_
  refine W.widen (k := 601024) (n := 7293034) (Nat.le_of_ble_eq_true rfl) (Nat.le_of_ble_eq_true rfl) ?_
  exact lw_ret hx hb0 hr hlocks dL_law_1791
