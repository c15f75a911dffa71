/-! ===== from the law's entry to its end ===== -/
set_option maxHeartbeats 4000000 in
set_option maxRecDepth 100000 in
theorem whole_start {p : Program} {e : Env} {s : State} {m : MethodId} {below : List Frame} {meth : Method} {c : Code} (l : Launch) (hflags : l.flags = flags0) {b L : Nat} {xs : Nat → Int32} (hL : L ≤ 260) (C0 : lw_At p s m meth c b L xs) : W p l e room_1 s m #[Value.ref b] below meth c s.heap [] 0 0 (lw_Z below #[Value.ref b] s) (entryFrame m ([Value.ref b] : List Value).toArray 9) := by
  obtain ⟨hx, hb0, hr, hml, hown, hts, hXX, hbl, hlocks, hgv⟩ := id C0
  obtain ⟨D, T, hK⟩ := zl_K hts
  obtain ⟨ea, mi, sa, hX⟩ := zl_X hts hgv
  have hfl : l.stackTraces = false := by
    unfold Launch.stackTraces
    rw [hflags]
    decide +kernel
  have hb : c.code = cL_law := hb0
  have hown : s.vm.findClass RL = some m.cls := hown
  have Z : zC p s m #[Value.ref b] c cL_law 9 RL lw_tbl D T (fun q : Nat => s.heap.size ≤ q) := ⟨⟨hx, hb, hml, hown, hts⟩, hK, fun _ h => h⟩
  have Mz9 : zM D (fun q : Nat => s.heap.size ≤ q) s.heap [] s.heap [] := ⟨fun k q h => by simp at h, ⟨fun i j p q h => by simp at h, fun k q h => by simp at h⟩, va_S.rf⟩
  have hl9 := lv_entry ([.ref b]) (n := 9) (Nat.le_of_ble_eq_true rfl)
  rw [lg_entry_eq]
  generalize (lg_sl ([.ref b]) ++ List.replicate (9 - (lg_sl ([.ref b])).length) Slot.unset).toArray = sl9 at hl9 ⊢
  have hl9 : lv_has sl9 9 [(0, .ref b)] := hl9
  refine z_new Z Mz9 zl_in5 tyX5 tyX5_ok (hts (.classLink RL 11 RX5) (List.mem_of_getElem? (i := 41) (by decide +kernel))) (hts (.instantiable RX5 8) (List.mem_of_getElem? (i := 42) (by decide +kernel))) (hts (.initialized RX5) (List.mem_of_getElem? (i := 20) (by decide +kernel))) (ci := 6) rfl [.null, .null, .null, .null, .null, .int 0, .null, .null] (by decide +kernel) (Nat.le_of_ble_eq_true rfl) (Nat.le_of_ble_eq_true rfl) dL_law_0 (fun o Hp9 Mz9 => ?_)
  refine lv_dup hx hb dL_law_3 rfl ?_
  refine z_callGiH (As := []) (rest := [.ref o]) (wc := [(o, .inr (6, [.null, .null, .null, .null, .null, .int 0, .null, .null]))]) (zW_k ea mi sa) hX.1 Z Mz9 (cb_initX5 l D T o ea mi sa) ⟨callB_of 0 hts gT_law_X5_init rfl rfl rfl (hts (.initialized RX5) (List.mem_of_getElem? (i := 20) (by decide +kernel))) (hts (.methodLink RL 190 yX5_init) (List.mem_of_getElem? (i := 43) (by decide +kernel))) (by decide +kernel) ⟨Nat.le_of_ble_eq_true rfl, Nat.le_of_ble_eq_true rfl⟩, rfl, hts (.instanceMethod yX5_init) (List.mem_of_getElem? (i := 44) (by decide +kernel))⟩ [0] rfl (by decide) (fun _ j hj => by have hj : j < 1 := hj; obtain rfl : j = 0 := (by omega); rfl) (fun _ => Nat.le_of_ble_eq_true rfl) rfl hl9.1 (Nat.le_of_ble_eq_true rfl) dL_law_4 ⟨Nat.le_of_ble_eq_true rfl, Nat.le_of_ble_eq_true rfl⟩ rfl (fun ad Hp9 lc9 Mz9 => ?_)
  have Mz9 : zM D (fun q : Nat => s.heap.size ≤ q) s.heap (zl_5 o ea T ad) Hp9 lc9 := Mz9
  refine lv_astore_n (lv' := [(1, .ref o), (0, .ref b)]) hx hb dL_law_7 rfl hl9 (by decide) rfl (fun sl9 hl9 => ?_)
  refine lv_bipush (v := 6) hx hb dL_law_8 (by decide) ?_
  refine z_newi (N := 6) Z Mz9 (hts (.arrayClass .int) (List.mem_of_getElem? (i := 95) (by decide +kernel))) (by decide) (by decide) (by decide) (Nat.le_of_ble_eq_true rfl) (Nat.le_of_ble_eq_true rfl) dL_law_10 (fun q0 Hp9 Mz9 => ?_)
  refine lv_astore_n (lv' := [(2, .ref q0), (1, .ref o), (0, .ref b)]) hx hb dL_law_12 rfl hl9 (by decide) rfl (fun sl9 hl9 => ?_)
  refine lv_bipush (v := 12) hx hb dL_law_13 (by decide) ?_
  refine z_newi (N := 12) Z Mz9 (hts (.arrayClass .int) (List.mem_of_getElem? (i := 95) (by decide +kernel))) (by decide) (by decide) (by decide) (Nat.le_of_ble_eq_true rfl) (Nat.le_of_ble_eq_true rfl) dL_law_15 (fun q1 Hp9 Mz9 => ?_)
  refine lv_astore_n (lv' := [(3, .ref q1), (2, .ref q0), (1, .ref o), (0, .ref b)]) hx hb dL_law_17 rfl hl9 (by decide) rfl (fun sl9 hl9 => ?_)
  refine lv_bipush (v := 12) hx hb dL_law_18 (by decide) ?_
  refine z_newi (N := 12) Z Mz9 (hts (.arrayClass .int) (List.mem_of_getElem? (i := 95) (by decide +kernel))) (by decide) (by decide) (by decide) (Nat.le_of_ble_eq_true rfl) (Nat.le_of_ble_eq_true rfl) dL_law_20 (fun q2 Hp9 Mz9 => ?_)
  refine lv_astore (lv' := [(4, .ref q2), (3, .ref q1), (2, .ref q0), (1, .ref o), (0, .ref b)]) hx hb dL_law_22 hl9 (by decide) rfl (fun sl9 hl9 => ?_)
  refine lv_bipush (v := 12) hx hb dL_law_24 (by decide) ?_
  refine z_newi (N := 12) Z Mz9 (hts (.arrayClass .int) (List.mem_of_getElem? (i := 95) (by decide +kernel))) (by decide) (by decide) (by decide) (Nat.le_of_ble_eq_true rfl) (Nat.le_of_ble_eq_true rfl) dL_law_26 (fun q3 Hp9 Mz9 => ?_)
  refine lv_astore (lv' := [(5, .ref q3), (4, .ref q2), (3, .ref q1), (2, .ref q0), (1, .ref o), (0, .ref b)]) hx hb dL_law_28 hl9 (by decide) rfl (fun sl9 hl9 => ?_)
  refine lv_bipush (v := 20) hx hb dL_law_30 (by decide) ?_
  refine z_newi (N := 20) Z Mz9 (hts (.arrayClass .int) (List.mem_of_getElem? (i := 95) (by decide +kernel))) (by decide) (by decide) (by decide) (Nat.le_of_ble_eq_true rfl) (Nat.le_of_ble_eq_true rfl) dL_law_32 (fun q4 Hp9 Mz9 => ?_)
  refine lv_astore (lv' := [(6, .ref q4), (5, .ref q3), (4, .ref q2), (3, .ref q1), (2, .ref q0), (1, .ref o), (0, .ref b)]) hx hb dL_law_34 hl9 (by decide) rfl (fun sl9 hl9 => ?_)
  obtain ⟨av, a0, a1, a2, a3, a4⟩ : ∃ f : Nat → Nat, f 0 = q0 ∧ f 1 = q1 ∧ f 2 = q2 ∧ f 3 = q3 ∧ f 4 = q4 := ⟨fun k => match k with | 0 => q0 | 1 => q1 | 2 => q2 | 3 => q3 | _ => q4, rfl, rfl, rfl, rfl, rfl⟩
  rw [← a0, ← a1, ← a2, ← a3, ← a4] at Mz9
  rw [← a0, ← a1, ← a2, ← a3, ← a4] at hl9
  have Mz9 := zl_first Mz9
  have hl9 : lv_has sl9 9 [(0, .ref b), (1, .ref o), (2, .ref (av 0)), (3, .ref (av 1)), (4, .ref (av 2)), (5, .ref (av 3)), (6, .ref (av 4))] := lv_sub hl9 [6, 5, 4, 3, 2, 1, 0] rfl
  refine zl_mk Z hfl hX hL hXX hbl ?_ zl_Inv0 zl_GR0 (show zl_a0 o ad 0 = o from rfl) (Nat.le_of_ble_eq_true rfl) (Nat.le_of_ble_eq_true rfl) Mz9 hl9
  intro C J ad N mst bst ρ ga ma aa ca ta hC hI hGr hO Hp9 lc9 sl9 cells slots hc9 hs9 Mz9 hl9
  refine zl_act Z hfl hX hL hXX hbl ?_ 60 2 rfl C J ad N mst bst ρ ga ma aa ca ta (by omega) hI hGr hO _ _ _ _ _ (by omega) (by omega) Mz9 hl9
  intro C J ad N mst bst ρ ga ma aa ca ta hC hI hGr hO Hp9 lc9 sl9 cells slots hc9 hs9 Mz9 hl9
  have hn1 := I_N1 hI
  refine lv_iconst (v := 0) hx hb dL_law_172 (by decide) ?_
  refine lv_istore (lv' := [(8, .int 0), (7, .int 1), (1, .ref o), (2, .ref (av 0)), (4, .ref (av 2)), (5, .ref (av 3))]) hx hb dL_law_173 hl9 (by decide) rfl (fun sl9 hl9 => ?_)
  refine zl_bils Z hfl hX hC hI hGr hO ?_ (N 1) 0 (Nat.zero_add _) _ _ _ _ _ (by omega) (by omega) Mz9 hl9
  intro ws Hp9 lc9 sl9 cells slots hc9 hs9 Mz9 hl9
  refine lv_iload hx hb dL_law_207 (lv_at hl9 0 rfl) ?_
  refine va_forget (fun q hq => Mz9.2.2.2.2 q hq) ?_
  refine W.widen (k := 600104) (n := 7301314) hc9 hs9 ?_
  exact lw_ret hx hb0 hr hlocks dL_law_209
