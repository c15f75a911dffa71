/-! ===== laid by program ===== -/
set_option maxHeartbeats 4000000 in
set_option maxRecDepth 100000 in
theorem cm_fewestFrom (l : Launch) (D : va_G) (T : Nat → ClassId) (o : Nat) (ad : Nat → Nat) (σ : Nat → Nat → Int32) (q t : Nat) (hq : q < 256) (ht : t < 256) : ZI l yX6_fewestFrom wsX6_fewestFrom (zrm 2 49) D T (mW o ad T σ) (mW o ad T (upS (upS σ 29 ((BF (σ 29) (σ 30) q).1)) 30 ((BF (σ 29) (σ 30) q).2.1))) [.ref o, .int (nI (q)), .int (nI (t))] (dist q t) 0 0 := by
  refine z_inI (cc := cX6_fewestFrom) (maxL := 3) (rt := .int) (by decide +kernel) rfl (Nat.le_of_ble_eq_true rfl) ?_
  intro p e s m args below meth c sl9 A Q Z hnm Mz9 hl9 hret
  have Z : zC p s m args c cX6_fewestFrom 3 RX6 wsX6_fewestFrom D T A := Z
  have hx := Z.1.1
  have hb := Z.1.2.1
  have hts := Z.1.2.2.2.2
  have hin6 : ∀ w ∈ wsX60, w ∈ wsX6_fewestFrom := fun w h => List.mem_cons_of_mem _ (List.mem_append_right _ h)
  have hH0 : s.heap = s.heap := rfl
  have L80 := hts (.fieldLink RX6 80 "AnvilHouseModel" "far" "[I") (by decide +kernel)
  have hl9 : lv_has sl9 3 [(0, .ref o), (1, .int (nI (q))), (2, .int (nI (t)))] := hl9
  refine lv_aload_n hx hb dX6_fewestFrom_0 rfl (lv_at hl9 0 rfl) ?_
  refine lv_iload_n hx hb dX6_fewestFrom_1 rfl (lv_at hl9 1 rfl) ?_
  refine z_callAv (As := [.int (nI (q))]) (rest := []) (wc' := mW o ad T (upS (upS σ 29 ((BF (σ 29) (σ 30) (q)).1)) 30 ((BF (σ 29) (σ 30) (q)).2.1))) Z Mz9 (cm_finds l D T o ad (σ) (q) (by omega)) (cwV 1 hts gX6_fewestFrom_X6_finds rfl rfl rfl (by decide +kernel) ⟨by decide, by decide⟩) (va_recv Z.2.1 Mz9.1 (ci := 7) (q0 := 0) rfl rfl) rfl hl9.1 (Nat.le_of_ble_eq_true rfl) dX6_fewestFrom_2 ⟨by decide, by decide⟩ rfl (fun Hp9 lc9 Mz9 => ?_)
  refine lv_aload_n hx hb dX6_fewestFrom_5 rfl (lv_at hl9 0 rfl) ?_
  refine z_getf Z Mz9 hin6 0 rfl rfl 29 (by decide) L80 rfl (v := .ref (ad 29)) rfl dX6_fewestFrom_6 ?_
  refine lv_iload_n hx hb dX6_fewestFrom_9 rfl (lv_at hl9 2 rfl) ?_
  refine z_iald Z Mz9 24 (h0 := ad 29) (n := 256) (f := (BF (σ 29) (σ 30) (q)).1) rfl (j := t) (by omega) (by decide) dX6_fewestFrom_10 ?_
  exact hret _ _ _ _ _ sl9 _ _ Mz9 (rfl) (BF_ind _ _ hq ht) (rfl) (Nat.le_refl _) (Nat.le_refl _) dX6_fewestFrom_11
set_option maxHeartbeats 4000000 in
set_option maxRecDepth 100000 in
theorem cm_fewest_bad (l : Launch) (D : va_G) (T : Nat → ClassId) (o : Nat) (ad : Nat → Nat) (σ : Nat → Nat → Int32) (b t : Int32) (hg : ¬ gth (bin (b) 0 (σ 5 0 - 1)) (bin (t) (0) (255)) (1) = 0) : ZI l yX6_fewest wsX6_fewest (zrm 3 71) D T (mW o ad T σ) (mW o ad T (upS σ 31 (fun _ => gth (bin (b) 0 (σ 5 0 - 1)) (bin (t) (0) (255)) (1)))) [.ref o, .int (b), .int (t)] (0) 0 0 := by
  refine z_inI (cc := cX6_fewest) (maxL := 3) (rt := .int) (by decide +kernel) rfl (Nat.le_of_ble_eq_true rfl) ?_
  intro p e s m args below meth c sl9 A Q Z hnm Mz9 hl9 hret
  have Z : zC p s m args c cX6_fewest 3 RX6 wsX6_fewest D T A := Z
  have hx := Z.1.1
  have hb := Z.1.2.1
  have hts := Z.1.2.2.2.2
  have hin6 : ∀ w ∈ wsX60, w ∈ wsX6_fewest := fun w h => List.mem_cons_of_mem _ (List.mem_append_right _ h)
  have hH0 : s.heap = s.heap := rfl
  have L50 := hts (.fieldLink RX6 50 "AnvilHouseModel" "layers" "[I") (by decide +kernel)
  have hl9 : lv_has sl9 3 [(0, .ref o), (1, .int (b)), (2, .int (t))] := hl9
  refine lv_aload_n hx hb dX6_fewest_0 rfl (lv_at hl9 0 rfl) ?_
  refine lv_aload_n hx hb dX6_fewest_1 rfl (lv_at hl9 0 rfl) ?_
  refine lv_iload_n hx hb dX6_fewest_2 rfl (lv_at hl9 1 rfl) ?_
  refine z_callAi (As := [.int (b)]) (rest := [.ref o]) (rv := bin (b) 0 (σ 5 0 - 1)) (wc' := mW o ad T σ) Z Mz9 (cm_isBillet l D T o ad (σ) (b)) (cwV 1 hts gX6_fewest_X6_isBillet rfl rfl rfl (by decide +kernel) ⟨by decide, by decide⟩) (va_recv Z.2.1 Mz9.1 (ci := 7) (q0 := 0) rfl rfl) rfl hl9.1 (Nat.le_of_ble_eq_true rfl) dX6_fewest_3 ⟨by decide, by decide⟩ rfl (fun Hp9 lc9 Mz9 => ?_)
  refine lv_iload_n hx hb dX6_fewest_6 rfl (lv_at hl9 2 rfl) ?_
  refine lv_iconst (v := 0) hx hb dX6_fewest_7 (by decide) ?_
  refine lv_sipush (v := 255) hx hb dX6_fewest_8 (by decide) ?_
  refine z_callSi (As := [.int (t), .int 0, .int 255]) (rest := [.int (bin (b) 0 (σ 5 0 - 1)), .ref o]) Z.1 (cm_in l (t) (0) (255)) (va_cwS 3 hts gX6_fewest_X6_in rfl rfl rfl (by decide +kernel) ⟨by decide, by decide⟩) rfl hl9.1 (Nat.le_of_ble_eq_true rfl) dX6_fewest_11 ⟨by decide, by decide⟩ rfl ?_
  refine lv_iconst (v := 1) hx hb dX6_fewest_14 (by decide) ?_
  refine z_callAi (As := [.int (bin (b) 0 (σ 5 0 - 1)), .int (bin (t) (0) (255)), .int 1]) (rest := []) (rv := if gth (bin (b) 0 (σ 5 0 - 1)) (bin (t) (0) (255)) (1) = 0 then 1 else 0) (wc' := mW o ad T (upS σ 31 (fun _ => gth (bin (b) 0 (σ 5 0 - 1)) (bin (t) (0) (255)) (1)))) Z Mz9 (cm_goes l D T o ad (σ) (bin (b) 0 (σ 5 0 - 1)) (bin (t) (0) (255)) (1)) (cwV 3 hts gX6_fewest_X6_goes rfl rfl rfl (by decide +kernel) ⟨by decide, by decide⟩) (va_recv Z.2.1 Mz9.1 (ci := 7) (q0 := 0) rfl rfl) rfl hl9.1 (Nat.le_of_ble_eq_true rfl) dX6_fewest_15 ⟨by decide, by decide⟩ rfl (fun Hp9 lc9 Mz9 => ?_)
  refine zn_top (y := 0) (if_neg hg) ?_
  refine lv_if_eq (tgt := 35) hx hb dX6_fewest_18 (by decide) (fun _ => ?_) (fun h => absurd h (by decide))
  refine lv_iconst (v := 0) hx hb dX6_fewest_35 (by decide) ?_
  exact hret _ _ _ _ _ sl9 _ _ Mz9 (rfl) (rfl) (rfl) (Nat.le_refl _) (Nat.le_refl _) dX6_fewest_36
set_option maxHeartbeats 4000000 in
set_option maxRecDepth 100000 in
theorem cm_fewest_ok (l : Launch) (D : va_G) (T : Nat → ClassId) (o : Nat) (ad : Nat → Nat) (σ : Nat → Nat → Int32) (i q t : Nat) (hi : i < 12) (hq : q < 256) (ht : t < 256) (h1 : bin (nI i) 0 (σ 5 0 - 1) = 1) (h2 : bin (nI t) 0 255 = 1) (h15 : σ 15 i = nI q) : ZI l yX6_fewest wsX6_fewest (zrm 3 71) D T (mW o ad T σ) (mW o ad T (upS (upS (upS σ 29 ((BF (σ 29) (σ 30) q).1)) 30 ((BF (σ 29) (σ 30) q).2.1)) 31 (fun _ => 0))) [.ref o, .int (nI (i)), .int (nI (t))] (dist q t) 0 0 := by
  refine z_inI (cc := cX6_fewest) (maxL := 3) (rt := .int) (by decide +kernel) rfl (Nat.le_of_ble_eq_true rfl) ?_
  intro p e s m args below meth c sl9 A Q Z hnm Mz9 hl9 hret
  have Z : zC p s m args c cX6_fewest 3 RX6 wsX6_fewest D T A := Z
  have hx := Z.1.1
  have hb := Z.1.2.1
  have hts := Z.1.2.2.2.2
  have hin6 : ∀ w ∈ wsX60, w ∈ wsX6_fewest := fun w h => List.mem_cons_of_mem _ (List.mem_append_right _ h)
  have hH0 : s.heap = s.heap := rfl
  have L50 := hts (.fieldLink RX6 50 "AnvilHouseModel" "layers" "[I") (by decide +kernel)
  have hl9 : lv_has sl9 3 [(0, .ref o), (1, .int (nI (i))), (2, .int (nI (t)))] := hl9
  refine lv_aload_n hx hb dX6_fewest_0 rfl (lv_at hl9 0 rfl) ?_
  refine lv_aload_n hx hb dX6_fewest_1 rfl (lv_at hl9 0 rfl) ?_
  refine lv_iload_n hx hb dX6_fewest_2 rfl (lv_at hl9 1 rfl) ?_
  refine z_callAi (As := [.int (nI (i))]) (rest := [.ref o]) (rv := bin (nI (i)) 0 (σ 5 0 - 1)) (wc' := mW o ad T σ) Z Mz9 (cm_isBillet l D T o ad (σ) (nI (i))) (cwV 1 hts gX6_fewest_X6_isBillet rfl rfl rfl (by decide +kernel) ⟨by decide, by decide⟩) (va_recv Z.2.1 Mz9.1 (ci := 7) (q0 := 0) rfl rfl) rfl hl9.1 (Nat.le_of_ble_eq_true rfl) dX6_fewest_3 ⟨by decide, by decide⟩ rfl (fun Hp9 lc9 Mz9 => ?_)
  refine zn_top (y := 1) (h1) ?_
  refine lv_iload_n hx hb dX6_fewest_6 rfl (lv_at hl9 2 rfl) ?_
  refine lv_iconst (v := 0) hx hb dX6_fewest_7 (by decide) ?_
  refine lv_sipush (v := 255) hx hb dX6_fewest_8 (by decide) ?_
  refine z_callSi (As := [.int (nI (t)), .int 0, .int 255]) (rest := [.int 1, .ref o]) Z.1 (cm_in l (nI (t)) (0) (255)) (va_cwS 3 hts gX6_fewest_X6_in rfl rfl rfl (by decide +kernel) ⟨by decide, by decide⟩) rfl hl9.1 (Nat.le_of_ble_eq_true rfl) dX6_fewest_11 ⟨by decide, by decide⟩ rfl ?_
  refine zn_top (y := 1) (h2) ?_
  refine lv_iconst (v := 1) hx hb dX6_fewest_14 (by decide) ?_
  refine z_callAi (As := [.int 1, .int 1, .int 1]) (rest := []) (rv := if gth (1) (1) (1) = 0 then 1 else 0) (wc' := mW o ad T (upS σ 31 (fun _ => 0))) Z Mz9 (cm_goes l D T o ad (σ) (1) (1) (1)) (cwV 3 hts gX6_fewest_X6_goes rfl rfl rfl (by decide +kernel) ⟨by decide, by decide⟩) (va_recv Z.2.1 Mz9.1 (ci := 7) (q0 := 0) rfl rfl) rfl hl9.1 (Nat.le_of_ble_eq_true rfl) dX6_fewest_15 ⟨by decide, by decide⟩ rfl (fun Hp9 lc9 Mz9 => ?_)
  refine zn_top (y := 1) (by decide) ?_
  refine lv_if_eq (tgt := 35) hx hb dX6_fewest_18 (by decide) (fun h => absurd h (by decide)) (fun _ => ?_)
  refine lv_aload_n hx hb dX6_fewest_21 rfl (lv_at hl9 0 rfl) ?_
  refine lv_aload_n hx hb dX6_fewest_22 rfl (lv_at hl9 0 rfl) ?_
  refine z_getf Z Mz9 hin6 0 rfl rfl 15 (by decide) L50 rfl (v := .ref (ad 15)) rfl dX6_fewest_23 ?_
  refine lv_iload_n hx hb dX6_fewest_26 rfl (lv_at hl9 1 rfl) ?_
  refine z_iald Z Mz9 14 (h0 := ad 15) (n := 12) (f := σ 15) rfl (j := i) (by omega) (by decide) dX6_fewest_27 ?_
  refine zn_top (y := nI (q)) (h15) ?_
  refine lv_iload_n hx hb dX6_fewest_28 rfl (lv_at hl9 2 rfl) ?_
  refine z_callAi (As := [.int (nI (q)), .int (nI (t))]) (rest := []) (rv := dist (q) (t)) (wc' := mW o ad T (upS (upS (upS σ 29 ((BF (σ 29) (σ 30) (q)).1)) 30 ((BF (σ 29) (σ 30) (q)).2.1)) 31 (fun _ => 0))) Z Mz9 (cm_fewestFrom l D T o ad (upS σ 31 (fun _ => 0)) (q) (t) (by omega) (by omega)) (cwV 2 hts gX6_fewest_X6_fewestFrom rfl rfl rfl (by decide +kernel) ⟨by decide, by decide⟩) (va_recv Z.2.1 Mz9.1 (ci := 7) (q0 := 0) rfl rfl) rfl hl9.1 (Nat.le_of_ble_eq_true rfl) dX6_fewest_29 ⟨by decide, by decide⟩ rfl (fun Hp9 lc9 Mz9 => ?_)
  refine lv_goto (tgt := 36) hx hb dX6_fewest_32 (by decide) ?_
  exact hret _ _ _ _ _ sl9 _ _ Mz9 (rfl) (rfl) (rfl) (Nat.le_refl _) (Nat.le_refl _) dX6_fewest_36
set_option maxHeartbeats 4000000 in
set_option maxRecDepth 100000 in
theorem cm_first_bad (l : Launch) (D : va_G) (T : Nat → ClassId) (o : Nat) (ad : Nat → Nat) (σ : Nat → Nat → Int32) (b t : Int32) (hg : ¬ gth (bin (b) 0 (σ 5 0 - 1)) (bin (t) (0) (255)) (1) = 0) : ZI l yX6_first wsX6_first (zrm 3 71) D T (mW o ad T σ) (mW o ad T (upS σ 31 (fun _ => gth (bin (b) 0 (σ 5 0 - 1)) (bin (t) (0) (255)) (1)))) [.ref o, .int (b), .int (t)] (0) 0 0 := by
  refine z_inI (cc := cX6_first) (maxL := 6) (rt := .int) (by decide +kernel) rfl (Nat.le_of_ble_eq_true rfl) ?_
  intro p e s m args below meth c sl9 A Q Z hnm Mz9 hl9 hret
  have Z : zC p s m args c cX6_first 6 RX6 wsX6_first D T A := Z
  have hx := Z.1.1
  have hb := Z.1.2.1
  have hts := Z.1.2.2.2.2
  have hin6 : ∀ w ∈ wsX60, w ∈ wsX6_first := fun w h => List.mem_cons_of_mem _ (List.mem_append_right _ h)
  have hH0 : s.heap = s.heap := rfl
  have L50 := hts (.fieldLink RX6 50 "AnvilHouseModel" "layers" "[I") (by decide +kernel)
  have hl9 : lv_has sl9 6 [(0, .ref o), (1, .int (b)), (2, .int (t))] := hl9
  refine lv_aload_n hx hb dX6_first_0 rfl (lv_at hl9 0 rfl) ?_
  refine lv_aload_n hx hb dX6_first_1 rfl (lv_at hl9 0 rfl) ?_
  refine lv_iload_n hx hb dX6_first_2 rfl (lv_at hl9 1 rfl) ?_
  refine z_callAi (As := [.int (b)]) (rest := [.ref o]) (rv := bin (b) 0 (σ 5 0 - 1)) (wc' := mW o ad T σ) Z Mz9 (cm_isBillet l D T o ad (σ) (b)) (cwV 1 hts gX6_first_X6_isBillet rfl rfl rfl (by decide +kernel) ⟨by decide, by decide⟩) (va_recv Z.2.1 Mz9.1 (ci := 7) (q0 := 0) rfl rfl) rfl hl9.1 (Nat.le_of_ble_eq_true rfl) dX6_first_3 ⟨by decide, by decide⟩ rfl (fun Hp9 lc9 Mz9 => ?_)
  refine lv_iload_n hx hb dX6_first_6 rfl (lv_at hl9 2 rfl) ?_
  refine lv_iconst (v := 0) hx hb dX6_first_7 (by decide) ?_
  refine lv_sipush (v := 255) hx hb dX6_first_8 (by decide) ?_
  refine z_callSi (As := [.int (t), .int 0, .int 255]) (rest := [.int (bin (b) 0 (σ 5 0 - 1)), .ref o]) Z.1 (cm_in l (t) (0) (255)) (va_cwS 3 hts gX6_first_X6_in rfl rfl rfl (by decide +kernel) ⟨by decide, by decide⟩) rfl hl9.1 (Nat.le_of_ble_eq_true rfl) dX6_first_11 ⟨by decide, by decide⟩ rfl ?_
  refine lv_iconst (v := 1) hx hb dX6_first_14 (by decide) ?_
  refine z_callAi (As := [.int (bin (b) 0 (σ 5 0 - 1)), .int (bin (t) (0) (255)), .int 1]) (rest := []) (rv := if gth (bin (b) 0 (σ 5 0 - 1)) (bin (t) (0) (255)) (1) = 0 then 1 else 0) (wc' := mW o ad T (upS σ 31 (fun _ => gth (bin (b) 0 (σ 5 0 - 1)) (bin (t) (0) (255)) (1)))) Z Mz9 (cm_goes l D T o ad (σ) (bin (b) 0 (σ 5 0 - 1)) (bin (t) (0) (255)) (1)) (cwV 3 hts gX6_first_X6_goes rfl rfl rfl (by decide +kernel) ⟨by decide, by decide⟩) (va_recv Z.2.1 Mz9.1 (ci := 7) (q0 := 0) rfl rfl) rfl hl9.1 (Nat.le_of_ble_eq_true rfl) dX6_first_15 ⟨by decide, by decide⟩ rfl (fun Hp9 lc9 Mz9 => ?_)
  refine zn_top (y := 0) (if_neg hg) ?_
  refine lv_if_ne (tgt := 23) hx hb dX6_first_18 (by decide) (fun h => absurd h (by decide)) (fun _ => ?_)
  refine lv_iconst (v := 0) hx hb dX6_first_21 (by decide) ?_
  exact hret _ _ _ _ _ sl9 _ _ Mz9 (rfl) (rfl) (rfl) (Nat.le_refl _) (Nat.le_refl _) dX6_first_22
set_option maxHeartbeats 4000000 in
set_option maxRecDepth 100000 in
theorem cm_first_ok (l : Launch) (D : va_G) (T : Nat → ClassId) (o : Nat) (ad : Nat → Nat) (σ : Nat → Nat → Int32) (i q t : Nat) (hi : i < 12) (hq : q < 256) (ht : t < 256) (h1 : bin (nI i) 0 (σ 5 0 - 1) = 1) (h2 : bin (nI t) 0 255 = 1) (h15 : σ 15 i = nI q) : ZX l yX6_first wsX6_first (zrm 3 71) D T (mW o ad T σ) (fun u : (Nat → Int32) × (Nat → Int32) => mW o ad T (upS (upS (upS σ 29 (u.1)) 30 (u.2)) 31 (fun _ => 0))) [.ref o, .int (nI (i)), .int (nI (t))] (fstA q t) 0 0 := by
  refine z_inX (cc := cX6_first) (maxL := 6) (rt := .int) (by decide +kernel) rfl (Nat.le_of_ble_eq_true rfl) ?_
  intro p e s m args below meth c sl9 A Q Z hnm Mz9 hl9 hret
  have Z : zC p s m args c cX6_first 6 RX6 wsX6_first D T A := Z
  have hx := Z.1.1
  have hb := Z.1.2.1
  have hts := Z.1.2.2.2.2
  have hin6 : ∀ w ∈ wsX60, w ∈ wsX6_first := fun w h => List.mem_cons_of_mem _ (List.mem_append_right _ h)
  have hH0 : s.heap = s.heap := rfl
  have L50 := hts (.fieldLink RX6 50 "AnvilHouseModel" "layers" "[I") (by decide +kernel)
  have hl9 : lv_has sl9 6 [(0, .ref o), (1, .int (nI (i))), (2, .int (nI (t)))] := hl9
  refine lv_aload_n hx hb dX6_first_0 rfl (lv_at hl9 0 rfl) ?_
  refine lv_aload_n hx hb dX6_first_1 rfl (lv_at hl9 0 rfl) ?_
  refine lv_iload_n hx hb dX6_first_2 rfl (lv_at hl9 1 rfl) ?_
  refine z_callAi (As := [.int (nI (i))]) (rest := [.ref o]) (rv := bin (nI (i)) 0 (σ 5 0 - 1)) (wc' := mW o ad T σ) Z Mz9 (cm_isBillet l D T o ad (σ) (nI (i))) (cwV 1 hts gX6_first_X6_isBillet rfl rfl rfl (by decide +kernel) ⟨by decide, by decide⟩) (va_recv Z.2.1 Mz9.1 (ci := 7) (q0 := 0) rfl rfl) rfl hl9.1 (Nat.le_of_ble_eq_true rfl) dX6_first_3 ⟨by decide, by decide⟩ rfl (fun Hp9 lc9 Mz9 => ?_)
  refine zn_top (y := 1) (h1) ?_
  refine lv_iload_n hx hb dX6_first_6 rfl (lv_at hl9 2 rfl) ?_
  refine lv_iconst (v := 0) hx hb dX6_first_7 (by decide) ?_
  refine lv_sipush (v := 255) hx hb dX6_first_8 (by decide) ?_
  refine z_callSi (As := [.int (nI (t)), .int 0, .int 255]) (rest := [.int 1, .ref o]) Z.1 (cm_in l (nI (t)) (0) (255)) (va_cwS 3 hts gX6_first_X6_in rfl rfl rfl (by decide +kernel) ⟨by decide, by decide⟩) rfl hl9.1 (Nat.le_of_ble_eq_true rfl) dX6_first_11 ⟨by decide, by decide⟩ rfl ?_
  refine zn_top (y := 1) (h2) ?_
  refine lv_iconst (v := 1) hx hb dX6_first_14 (by decide) ?_
  refine z_callAi (As := [.int 1, .int 1, .int 1]) (rest := []) (rv := if gth (1) (1) (1) = 0 then 1 else 0) (wc' := mW o ad T (upS σ 31 (fun _ => 0))) Z Mz9 (cm_goes l D T o ad (σ) (1) (1) (1)) (cwV 3 hts gX6_first_X6_goes rfl rfl rfl (by decide +kernel) ⟨by decide, by decide⟩) (va_recv Z.2.1 Mz9.1 (ci := 7) (q0 := 0) rfl rfl) rfl hl9.1 (Nat.le_of_ble_eq_true rfl) dX6_first_15 ⟨by decide, by decide⟩ rfl (fun Hp9 lc9 Mz9 => ?_)
  refine zn_top (y := 1) (by decide) ?_
  refine lv_if_ne (tgt := 23) hx hb dX6_first_18 (by decide) (fun _ => ?_) (fun h => absurd h (by decide))
  refine lv_aload_n hx hb dX6_first_23 rfl (lv_at hl9 0 rfl) ?_
  refine lv_aload_n hx hb dX6_first_24 rfl (lv_at hl9 0 rfl) ?_
  refine z_getf Z Mz9 hin6 0 rfl rfl 15 (by decide) L50 rfl (v := .ref (ad 15)) rfl dX6_first_25 ?_
  refine lv_iload_n hx hb dX6_first_28 rfl (lv_at hl9 1 rfl) ?_
  refine z_iald Z Mz9 14 (h0 := ad 15) (n := 12) (f := σ 15) rfl (j := i) (by omega) (by decide) dX6_first_29 ?_
  refine zn_top (y := nI (q)) (h15) ?_
  refine lv_iload_n hx hb dX6_first_30 rfl (lv_at hl9 2 rfl) ?_
  refine z_callAi (As := [.int (nI (q)), .int (nI (t))]) (rest := []) (rv := dist (q) (t)) (wc' := mW o ad T (upS (upS (upS σ 29 ((BF (σ 29) (σ 30) (q)).1)) 30 ((BF (σ 29) (σ 30) (q)).2.1)) 31 (fun _ => 0))) Z Mz9 (cm_fewestFrom l D T o ad (upS σ 31 (fun _ => 0)) (q) (t) (by omega) (by omega)) (cwV 2 hts gX6_first_X6_fewestFrom rfl rfl rfl (by decide +kernel) ⟨by decide, by decide⟩) (va_recv Z.2.1 Mz9.1 (ci := 7) (q0 := 0) rfl rfl) rfl hl9.1 (Nat.le_of_ble_eq_true rfl) dX6_first_31 ⟨by decide, by decide⟩ rfl (fun Hp9 lc9 Mz9 => ?_)
  obtain ⟨τ1, hτ1⟩ : ∃ z, z = upS (upS (upS σ 29 ((BF (σ 29) (σ 30) (q)).1)) 30 ((BF (σ 29) (σ 30) (q)).2.1)) 31 (fun _ => 0) := ⟨_, rfl⟩
  have Mz9 : zM D A s.heap (mW o ad T τ1) _ _ := zM_w (by rw [hτ1]) Mz9
  have h15_1 : τ1 15 i = nI q := by rw [hτ1]; exact h15
  have hk_1 : ∀ a, a ≠ 29 → a ≠ 30 → τ1 a = upS σ 31 (fun _ => 0) a := fun a h1 h2 => by rw [hτ1]; exact z_k1 _ _ _ h1 h2
  refine lv_istore_n (lv' := [(3, .int (dist (q) (t))), (0, .ref o), (1, .int (nI (i))), (2, .int (nI (t)))]) hx hb dX6_first_34 rfl hl9 (by decide) rfl (fun sl9 hl9 => ?_)
  refine lv_iconst (v := (-1)) hx hb dX6_first_35 (by decide) ?_
  refine lv_istore (lv' := [(4, .int (-1)), (3, .int (dist (q) (t))), (0, .ref o), (1, .int (nI (i))), (2, .int (nI (t)))]) hx hb dX6_first_36 hl9 (by decide) rfl (fun sl9 hl9 => ?_)
  refine lv_iconst (v := 2) hx hb dX6_first_38 (by decide) ?_
  refine lv_istore (lv' := [(5, .int 2), (4, .int (-1)), (3, .int (dist (q) (t))), (0, .ref o), (1, .int (nI (i))), (2, .int (nI (t)))]) hx hb dX6_first_39 hl9 (by decide) rfl (fun sl9 hl9 => ?_)
  refine lv_iload hx hb dX6_first_41 (lv_at hl9 0 rfl) ?_
  refine lv_if_lt (tgt := 87) hx hb dX6_first_43 (by decide) (fun h => absurd h (by decide)) (fun _ => ?_)
  refine lv_iload_n hx hb dX6_first_46 rfl (lv_at hl9 2 rfl) ?_
  refine lv_if_le (tgt := 87) hx hb dX6_first_47 (by decide) (fun c_1 => ?_) (fun c_1 => ?_)
  ·
    refine lv_iload hx hb dX6_first_87 (lv_at hl9 1 rfl) ?_
    exact hret _ _ _ _ _ sl9 _ _ ((τ1 29, τ1 30)) Mz9 ((congrArg (mW o ad T) (z_two hk_1)).trans rfl) (by simp only [fstA, if_neg (Int32.not_lt.mpr c_1)]) (rfl) (Nat.le_refl _) (Nat.le_refl _) dX6_first_89
  ·
    refine lv_aload_n hx hb dX6_first_50 rfl (lv_at hl9 3 rfl) ?_
    refine lv_aload_n hx hb dX6_first_51 rfl (lv_at hl9 3 rfl) ?_
    refine z_getf Z Mz9 hin6 0 rfl rfl 15 (by decide) L50 rfl (v := .ref (ad 15)) rfl dX6_first_52 ?_
    refine lv_iload_n hx hb dX6_first_55 rfl (lv_at hl9 4 rfl) ?_
    refine z_iald Z Mz9 14 (h0 := ad 15) (n := 12) (f := τ1 15) rfl (j := i) (by omega) (by decide) dX6_first_56 ?_
    refine zn_top (y := nI (q)) (h15_1) ?_
    refine lv_iload hx hb dX6_first_57 (lv_at hl9 0 rfl) ?_
    refine z_callSi (As := [.int (nI (q)), .int 2]) (rest := [.ref o]) Z.1 (cm_acted l (nI (q)) (2) (by omega)) (va_cwS 2 hts gX6_first_X6_acted rfl rfl rfl (by decide +kernel) ⟨by decide, by decide⟩) rfl hl9.1 (Nat.le_of_ble_eq_true rfl) dX6_first_59 ⟨by decide, by decide⟩ rfl ?_
    have ga2 := (actN_ok q hq 2 (by decide)).2
    refine zn_top (y := nI (actN q 2)) (AC_N hq (by decide)) ?_
    refine lv_iload_n hx hb dX6_first_62 rfl (lv_at hl9 5 rfl) ?_
    refine z_callAi (As := [.int (nI (actN q 2)), .int (nI (t))]) (rest := []) (rv := dist (actN q 2) (t)) (wc' := mW o ad T (upS (upS τ1 29 ((BF (τ1 29) (τ1 30) (actN q 2)).1)) 30 ((BF (τ1 29) (τ1 30) (actN q 2)).2.1))) Z Mz9 (cm_fewestFrom l D T o ad (τ1) (actN q 2) (t) (by omega) (by omega)) (cwV 2 hts gX6_first_X6_fewestFrom rfl rfl rfl (by decide +kernel) ⟨by decide, by decide⟩) (va_recv Z.2.1 Mz9.1 (ci := 7) (q0 := 0) rfl rfl) rfl hl9.1 (Nat.le_of_ble_eq_true rfl) dX6_first_63 ⟨by decide, by decide⟩ rfl (fun Hp9 lc9 Mz9 => ?_)
    obtain ⟨τ2, hτ2⟩ : ∃ z, z = upS (upS τ1 29 ((BF (τ1 29) (τ1 30) (actN q 2)).1)) 30 ((BF (τ1 29) (τ1 30) (actN q 2)).2.1) := ⟨_, rfl⟩
    have Mz9 : zM D A s.heap (mW o ad T τ2) _ _ := zM_w (by rw [hτ2]) Mz9
    have h15_2 : τ2 15 i = nI q := by rw [hτ2]; exact h15_1
    have hk_2 : ∀ a, a ≠ 29 → a ≠ 30 → τ2 a = upS σ 31 (fun _ => 0) a := fun a h1 h2 => by rw [hτ2, upS_ne _ _ h2, upS_ne _ _ h1]; exact hk_1 a h1 h2
    refine lv_iload_n hx hb dX6_first_66 rfl (lv_at hl9 2 rfl) ?_
    refine lv_iconst (v := 1) hx hb dX6_first_67 (by decide) ?_
    refine lv_isub hx hb dX6_first_68 ?_
    refine lv_icmp_ne (tgt := 77) hx hb dX6_first_69 (by decide) (fun c_2 => ?_) (fun c_2 => ?_)
    ·
      refine lv_iload hx hb dX6_first_77 (lv_at hl9 1 rfl) ?_
      refine lv_istore (lv' := [(4, .int (-1)), (5, .int 2), (3, .int (dist (q) (t))), (0, .ref o), (1, .int (nI (i))), (2, .int (nI (t)))]) hx hb dX6_first_79 hl9 (by decide) rfl (fun sl9 hl9 => ?_)
      refine lv_iinc (v := 1) (lv' := [(5, .int 1), (4, .int (-1)), (3, .int (dist (q) (t))), (0, .ref o), (1, .int (nI (i))), (2, .int (nI (t)))]) hx hb dX6_first_81 hl9 (k := 1) rfl (by decide) (by decide) rfl (fun sl9 hl9 => ?_)
      refine lv_goto (tgt := 41) hx hb dX6_first_84 (by decide) ?_
      refine lv_iload hx hb dX6_first_41 (lv_at hl9 0 rfl) ?_
      refine lv_if_lt (tgt := 87) hx hb dX6_first_43 (by decide) (fun h => absurd h (by decide)) (fun _ => ?_)
      refine lv_iload_n hx hb dX6_first_46 rfl (lv_at hl9 2 rfl) ?_
      refine lv_if_le (tgt := 87) hx hb dX6_first_47 (by decide) (fun h => absurd h (c_1)) (fun _ => ?_)
      refine lv_aload_n hx hb dX6_first_50 rfl (lv_at hl9 3 rfl) ?_
      refine lv_aload_n hx hb dX6_first_51 rfl (lv_at hl9 3 rfl) ?_
      refine z_getf Z Mz9 hin6 0 rfl rfl 15 (by decide) L50 rfl (v := .ref (ad 15)) rfl dX6_first_52 ?_
      refine lv_iload_n hx hb dX6_first_55 rfl (lv_at hl9 4 rfl) ?_
      refine z_iald Z Mz9 14 (h0 := ad 15) (n := 12) (f := τ2 15) rfl (j := i) (by omega) (by decide) dX6_first_56 ?_
      refine zn_top (y := nI (q)) (h15_2) ?_
      refine lv_iload hx hb dX6_first_57 (lv_at hl9 0 rfl) ?_
      refine z_callSi (As := [.int (nI (q)), .int 1]) (rest := [.ref o]) Z.1 (cm_acted l (nI (q)) (1) (by omega)) (va_cwS 2 hts gX6_first_X6_acted rfl rfl rfl (by decide +kernel) ⟨by decide, by decide⟩) rfl hl9.1 (Nat.le_of_ble_eq_true rfl) dX6_first_59 ⟨by decide, by decide⟩ rfl ?_
      have ga1 := (actN_ok q hq 1 (by decide)).2
      refine zn_top (y := nI (actN q 1)) (AC_N hq (by decide)) ?_
      refine lv_iload_n hx hb dX6_first_62 rfl (lv_at hl9 5 rfl) ?_
      refine z_callAi (As := [.int (nI (actN q 1)), .int (nI (t))]) (rest := []) (rv := dist (actN q 1) (t)) (wc' := mW o ad T (upS (upS τ2 29 ((BF (τ2 29) (τ2 30) (actN q 1)).1)) 30 ((BF (τ2 29) (τ2 30) (actN q 1)).2.1))) Z Mz9 (cm_fewestFrom l D T o ad (τ2) (actN q 1) (t) (by omega) (by omega)) (cwV 2 hts gX6_first_X6_fewestFrom rfl rfl rfl (by decide +kernel) ⟨by decide, by decide⟩) (va_recv Z.2.1 Mz9.1 (ci := 7) (q0 := 0) rfl rfl) rfl hl9.1 (Nat.le_of_ble_eq_true rfl) dX6_first_63 ⟨by decide, by decide⟩ rfl (fun Hp9 lc9 Mz9 => ?_)
      obtain ⟨τ3, hτ3⟩ : ∃ z, z = upS (upS τ2 29 ((BF (τ2 29) (τ2 30) (actN q 1)).1)) 30 ((BF (τ2 29) (τ2 30) (actN q 1)).2.1) := ⟨_, rfl⟩
      have Mz9 : zM D A s.heap (mW o ad T τ3) _ _ := zM_w (by rw [hτ3]) Mz9
      have h15_3 : τ3 15 i = nI q := by rw [hτ3]; exact h15_2
      have hk_3 : ∀ a, a ≠ 29 → a ≠ 30 → τ3 a = upS σ 31 (fun _ => 0) a := fun a h1 h2 => by rw [hτ3, upS_ne _ _ h2, upS_ne _ _ h1]; exact hk_2 a h1 h2
      refine lv_iload_n hx hb dX6_first_66 rfl (lv_at hl9 2 rfl) ?_
      refine lv_iconst (v := 1) hx hb dX6_first_67 (by decide) ?_
      refine lv_isub hx hb dX6_first_68 ?_
      refine lv_icmp_ne (tgt := 77) hx hb dX6_first_69 (by decide) (fun c_3 => ?_) (fun c_3 => ?_)
      ·
        refine lv_iload hx hb dX6_first_77 (lv_at hl9 1 rfl) ?_
        refine lv_istore (lv' := [(4, .int (-1)), (5, .int 1), (3, .int (dist (q) (t))), (0, .ref o), (1, .int (nI (i))), (2, .int (nI (t)))]) hx hb dX6_first_79 hl9 (by decide) rfl (fun sl9 hl9 => ?_)
        refine lv_iinc (v := 0) (lv' := [(5, .int 0), (4, .int (-1)), (3, .int (dist (q) (t))), (0, .ref o), (1, .int (nI (i))), (2, .int (nI (t)))]) hx hb dX6_first_81 hl9 (k := 1) rfl (by decide) (by decide) rfl (fun sl9 hl9 => ?_)
        refine lv_goto (tgt := 41) hx hb dX6_first_84 (by decide) ?_
        refine lv_iload hx hb dX6_first_41 (lv_at hl9 0 rfl) ?_
        refine lv_if_lt (tgt := 87) hx hb dX6_first_43 (by decide) (fun h => absurd h (by decide)) (fun _ => ?_)
        refine lv_iload_n hx hb dX6_first_46 rfl (lv_at hl9 2 rfl) ?_
        refine lv_if_le (tgt := 87) hx hb dX6_first_47 (by decide) (fun h => absurd h (c_1)) (fun _ => ?_)
        refine lv_aload_n hx hb dX6_first_50 rfl (lv_at hl9 3 rfl) ?_
        refine lv_aload_n hx hb dX6_first_51 rfl (lv_at hl9 3 rfl) ?_
        refine z_getf Z Mz9 hin6 0 rfl rfl 15 (by decide) L50 rfl (v := .ref (ad 15)) rfl dX6_first_52 ?_
        refine lv_iload_n hx hb dX6_first_55 rfl (lv_at hl9 4 rfl) ?_
        refine z_iald Z Mz9 14 (h0 := ad 15) (n := 12) (f := τ3 15) rfl (j := i) (by omega) (by decide) dX6_first_56 ?_
        refine zn_top (y := nI (q)) (h15_3) ?_
        refine lv_iload hx hb dX6_first_57 (lv_at hl9 0 rfl) ?_
        refine z_callSi (As := [.int (nI (q)), .int 0]) (rest := [.ref o]) Z.1 (cm_acted l (nI (q)) (0) (by omega)) (va_cwS 2 hts gX6_first_X6_acted rfl rfl rfl (by decide +kernel) ⟨by decide, by decide⟩) rfl hl9.1 (Nat.le_of_ble_eq_true rfl) dX6_first_59 ⟨by decide, by decide⟩ rfl ?_
        have ga0 := (actN_ok q hq 0 (by decide)).2
        refine zn_top (y := nI (actN q 0)) (AC_N hq (by decide)) ?_
        refine lv_iload_n hx hb dX6_first_62 rfl (lv_at hl9 5 rfl) ?_
        refine z_callAi (As := [.int (nI (actN q 0)), .int (nI (t))]) (rest := []) (rv := dist (actN q 0) (t)) (wc' := mW o ad T (upS (upS τ3 29 ((BF (τ3 29) (τ3 30) (actN q 0)).1)) 30 ((BF (τ3 29) (τ3 30) (actN q 0)).2.1))) Z Mz9 (cm_fewestFrom l D T o ad (τ3) (actN q 0) (t) (by omega) (by omega)) (cwV 2 hts gX6_first_X6_fewestFrom rfl rfl rfl (by decide +kernel) ⟨by decide, by decide⟩) (va_recv Z.2.1 Mz9.1 (ci := 7) (q0 := 0) rfl rfl) rfl hl9.1 (Nat.le_of_ble_eq_true rfl) dX6_first_63 ⟨by decide, by decide⟩ rfl (fun Hp9 lc9 Mz9 => ?_)
        obtain ⟨τ4, hτ4⟩ : ∃ z, z = upS (upS τ3 29 ((BF (τ3 29) (τ3 30) (actN q 0)).1)) 30 ((BF (τ3 29) (τ3 30) (actN q 0)).2.1) := ⟨_, rfl⟩
        have Mz9 : zM D A s.heap (mW o ad T τ4) _ _ := zM_w (by rw [hτ4]) Mz9
        have h15_4 : τ4 15 i = nI q := by rw [hτ4]; exact h15_3
        have hk_4 : ∀ a, a ≠ 29 → a ≠ 30 → τ4 a = upS σ 31 (fun _ => 0) a := fun a h1 h2 => by rw [hτ4, upS_ne _ _ h2, upS_ne _ _ h1]; exact hk_3 a h1 h2
        refine lv_iload_n hx hb dX6_first_66 rfl (lv_at hl9 2 rfl) ?_
        refine lv_iconst (v := 1) hx hb dX6_first_67 (by decide) ?_
        refine lv_isub hx hb dX6_first_68 ?_
        refine lv_icmp_ne (tgt := 77) hx hb dX6_first_69 (by decide) (fun c_4 => ?_) (fun c_4 => ?_)
        ·
          refine lv_iload hx hb dX6_first_77 (lv_at hl9 1 rfl) ?_
          refine lv_istore (lv' := [(4, .int (-1)), (5, .int 0), (3, .int (dist (q) (t))), (0, .ref o), (1, .int (nI (i))), (2, .int (nI (t)))]) hx hb dX6_first_79 hl9 (by decide) rfl (fun sl9 hl9 => ?_)
          refine lv_iinc (v := (-1)) (lv' := [(5, .int (-1)), (4, .int (-1)), (3, .int (dist (q) (t))), (0, .ref o), (1, .int (nI (i))), (2, .int (nI (t)))]) hx hb dX6_first_81 hl9 (k := 1) rfl (by decide) (by decide) rfl (fun sl9 hl9 => ?_)
          refine lv_goto (tgt := 41) hx hb dX6_first_84 (by decide) ?_
          refine lv_iload hx hb dX6_first_41 (lv_at hl9 0 rfl) ?_
          refine lv_if_lt (tgt := 87) hx hb dX6_first_43 (by decide) (fun _ => ?_) (fun h => absurd h (by decide))
          refine lv_iload hx hb dX6_first_87 (lv_at hl9 1 rfl) ?_
          exact hret _ _ _ _ _ sl9 _ _ ((τ4 29, τ4 30)) Mz9 ((congrArg (mW o ad T) (z_two hk_4)).trans rfl) (by simp only [fstA, if_pos (Int32.not_le.mp c_1), if_neg c_2, if_neg c_3, if_neg c_4]) (rfl) (Nat.le_refl _) (Nat.le_refl _) dX6_first_89
        ·
          refine lv_iload hx hb dX6_first_72 (lv_at hl9 0 rfl) ?_
          refine lv_goto (tgt := 79) hx hb dX6_first_74 (by decide) ?_
          refine lv_istore (lv' := [(4, .int 0), (5, .int 0), (3, .int (dist (q) (t))), (0, .ref o), (1, .int (nI (i))), (2, .int (nI (t)))]) hx hb dX6_first_79 hl9 (by decide) rfl (fun sl9 hl9 => ?_)
          refine lv_iinc (v := (-1)) (lv' := [(5, .int (-1)), (4, .int 0), (3, .int (dist (q) (t))), (0, .ref o), (1, .int (nI (i))), (2, .int (nI (t)))]) hx hb dX6_first_81 hl9 (k := 1) rfl (by decide) (by decide) rfl (fun sl9 hl9 => ?_)
          refine lv_goto (tgt := 41) hx hb dX6_first_84 (by decide) ?_
          refine lv_iload hx hb dX6_first_41 (lv_at hl9 0 rfl) ?_
          refine lv_if_lt (tgt := 87) hx hb dX6_first_43 (by decide) (fun _ => ?_) (fun h => absurd h (by decide))
          refine lv_iload hx hb dX6_first_87 (lv_at hl9 1 rfl) ?_
          exact hret _ _ _ _ _ sl9 _ _ ((τ4 29, τ4 30)) Mz9 ((congrArg (mW o ad T) (z_two hk_4)).trans rfl) (by simp only [fstA, if_pos (Int32.not_le.mp c_1), if_neg c_2, if_neg c_3, if_pos c_4]) (rfl) (Nat.le_refl _) (Nat.le_refl _) dX6_first_89
      ·
        refine lv_iload hx hb dX6_first_72 (lv_at hl9 0 rfl) ?_
        refine lv_goto (tgt := 79) hx hb dX6_first_74 (by decide) ?_
        refine lv_istore (lv' := [(4, .int 1), (5, .int 1), (3, .int (dist (q) (t))), (0, .ref o), (1, .int (nI (i))), (2, .int (nI (t)))]) hx hb dX6_first_79 hl9 (by decide) rfl (fun sl9 hl9 => ?_)
        refine lv_iinc (v := 0) (lv' := [(5, .int 0), (4, .int 1), (3, .int (dist (q) (t))), (0, .ref o), (1, .int (nI (i))), (2, .int (nI (t)))]) hx hb dX6_first_81 hl9 (k := 1) rfl (by decide) (by decide) rfl (fun sl9 hl9 => ?_)
        refine lv_goto (tgt := 41) hx hb dX6_first_84 (by decide) ?_
        refine lv_iload hx hb dX6_first_41 (lv_at hl9 0 rfl) ?_
        refine lv_if_lt (tgt := 87) hx hb dX6_first_43 (by decide) (fun h => absurd h (by decide)) (fun _ => ?_)
        refine lv_iload_n hx hb dX6_first_46 rfl (lv_at hl9 2 rfl) ?_
        refine lv_if_le (tgt := 87) hx hb dX6_first_47 (by decide) (fun h => absurd h (c_1)) (fun _ => ?_)
        refine lv_aload_n hx hb dX6_first_50 rfl (lv_at hl9 3 rfl) ?_
        refine lv_aload_n hx hb dX6_first_51 rfl (lv_at hl9 3 rfl) ?_
        refine z_getf Z Mz9 hin6 0 rfl rfl 15 (by decide) L50 rfl (v := .ref (ad 15)) rfl dX6_first_52 ?_
        refine lv_iload_n hx hb dX6_first_55 rfl (lv_at hl9 4 rfl) ?_
        refine z_iald Z Mz9 14 (h0 := ad 15) (n := 12) (f := τ3 15) rfl (j := i) (by omega) (by decide) dX6_first_56 ?_
        refine zn_top (y := nI (q)) (h15_3) ?_
        refine lv_iload hx hb dX6_first_57 (lv_at hl9 0 rfl) ?_
        refine z_callSi (As := [.int (nI (q)), .int 0]) (rest := [.ref o]) Z.1 (cm_acted l (nI (q)) (0) (by omega)) (va_cwS 2 hts gX6_first_X6_acted rfl rfl rfl (by decide +kernel) ⟨by decide, by decide⟩) rfl hl9.1 (Nat.le_of_ble_eq_true rfl) dX6_first_59 ⟨by decide, by decide⟩ rfl ?_
        have ga0 := (actN_ok q hq 0 (by decide)).2
        refine zn_top (y := nI (actN q 0)) (AC_N hq (by decide)) ?_
        refine lv_iload_n hx hb dX6_first_62 rfl (lv_at hl9 5 rfl) ?_
        refine z_callAi (As := [.int (nI (actN q 0)), .int (nI (t))]) (rest := []) (rv := dist (actN q 0) (t)) (wc' := mW o ad T (upS (upS τ3 29 ((BF (τ3 29) (τ3 30) (actN q 0)).1)) 30 ((BF (τ3 29) (τ3 30) (actN q 0)).2.1))) Z Mz9 (cm_fewestFrom l D T o ad (τ3) (actN q 0) (t) (by omega) (by omega)) (cwV 2 hts gX6_first_X6_fewestFrom rfl rfl rfl (by decide +kernel) ⟨by decide, by decide⟩) (va_recv Z.2.1 Mz9.1 (ci := 7) (q0 := 0) rfl rfl) rfl hl9.1 (Nat.le_of_ble_eq_true rfl) dX6_first_63 ⟨by decide, by decide⟩ rfl (fun Hp9 lc9 Mz9 => ?_)
        obtain ⟨τ4, hτ4⟩ : ∃ z, z = upS (upS τ3 29 ((BF (τ3 29) (τ3 30) (actN q 0)).1)) 30 ((BF (τ3 29) (τ3 30) (actN q 0)).2.1) := ⟨_, rfl⟩
        have Mz9 : zM D A s.heap (mW o ad T τ4) _ _ := zM_w (by rw [hτ4]) Mz9
        have h15_4 : τ4 15 i = nI q := by rw [hτ4]; exact h15_3
        have hk_4 : ∀ a, a ≠ 29 → a ≠ 30 → τ4 a = upS σ 31 (fun _ => 0) a := fun a h1 h2 => by rw [hτ4, upS_ne _ _ h2, upS_ne _ _ h1]; exact hk_3 a h1 h2
        refine lv_iload_n hx hb dX6_first_66 rfl (lv_at hl9 2 rfl) ?_
        refine lv_iconst (v := 1) hx hb dX6_first_67 (by decide) ?_
        refine lv_isub hx hb dX6_first_68 ?_
        refine lv_icmp_ne (tgt := 77) hx hb dX6_first_69 (by decide) (fun c_5 => ?_) (fun c_5 => ?_)
        ·
          refine lv_iload hx hb dX6_first_77 (lv_at hl9 1 rfl) ?_
          refine lv_istore (lv' := [(4, .int 1), (5, .int 0), (3, .int (dist (q) (t))), (0, .ref o), (1, .int (nI (i))), (2, .int (nI (t)))]) hx hb dX6_first_79 hl9 (by decide) rfl (fun sl9 hl9 => ?_)
          refine lv_iinc (v := (-1)) (lv' := [(5, .int (-1)), (4, .int 1), (3, .int (dist (q) (t))), (0, .ref o), (1, .int (nI (i))), (2, .int (nI (t)))]) hx hb dX6_first_81 hl9 (k := 1) rfl (by decide) (by decide) rfl (fun sl9 hl9 => ?_)
          refine lv_goto (tgt := 41) hx hb dX6_first_84 (by decide) ?_
          refine lv_iload hx hb dX6_first_41 (lv_at hl9 0 rfl) ?_
          refine lv_if_lt (tgt := 87) hx hb dX6_first_43 (by decide) (fun _ => ?_) (fun h => absurd h (by decide))
          refine lv_iload hx hb dX6_first_87 (lv_at hl9 1 rfl) ?_
          exact hret _ _ _ _ _ sl9 _ _ ((τ4 29, τ4 30)) Mz9 ((congrArg (mW o ad T) (z_two hk_4)).trans rfl) (by simp only [fstA, if_pos (Int32.not_le.mp c_1), if_neg c_2, if_pos c_3, if_neg c_5]) (rfl) (Nat.le_refl _) (Nat.le_refl _) dX6_first_89
        ·
          refine lv_iload hx hb dX6_first_72 (lv_at hl9 0 rfl) ?_
          refine lv_goto (tgt := 79) hx hb dX6_first_74 (by decide) ?_
          refine lv_istore (lv' := [(4, .int 0), (5, .int 0), (3, .int (dist (q) (t))), (0, .ref o), (1, .int (nI (i))), (2, .int (nI (t)))]) hx hb dX6_first_79 hl9 (by decide) rfl (fun sl9 hl9 => ?_)
          refine lv_iinc (v := (-1)) (lv' := [(5, .int (-1)), (4, .int 0), (3, .int (dist (q) (t))), (0, .ref o), (1, .int (nI (i))), (2, .int (nI (t)))]) hx hb dX6_first_81 hl9 (k := 1) rfl (by decide) (by decide) rfl (fun sl9 hl9 => ?_)
          refine lv_goto (tgt := 41) hx hb dX6_first_84 (by decide) ?_
          refine lv_iload hx hb dX6_first_41 (lv_at hl9 0 rfl) ?_
          refine lv_if_lt (tgt := 87) hx hb dX6_first_43 (by decide) (fun _ => ?_) (fun h => absurd h (by decide))
          refine lv_iload hx hb dX6_first_87 (lv_at hl9 1 rfl) ?_
          exact hret _ _ _ _ _ sl9 _ _ ((τ4 29, τ4 30)) Mz9 ((congrArg (mW o ad T) (z_two hk_4)).trans rfl) (by simp only [fstA, if_pos (Int32.not_le.mp c_1), if_neg c_2, if_pos c_3, if_pos c_5]) (rfl) (Nat.le_refl _) (Nat.le_refl _) dX6_first_89
    ·
      refine lv_iload hx hb dX6_first_72 (lv_at hl9 0 rfl) ?_
      refine lv_goto (tgt := 79) hx hb dX6_first_74 (by decide) ?_
      refine lv_istore (lv' := [(4, .int 2), (5, .int 2), (3, .int (dist (q) (t))), (0, .ref o), (1, .int (nI (i))), (2, .int (nI (t)))]) hx hb dX6_first_79 hl9 (by decide) rfl (fun sl9 hl9 => ?_)
      refine lv_iinc (v := 1) (lv' := [(5, .int 1), (4, .int 2), (3, .int (dist (q) (t))), (0, .ref o), (1, .int (nI (i))), (2, .int (nI (t)))]) hx hb dX6_first_81 hl9 (k := 1) rfl (by decide) (by decide) rfl (fun sl9 hl9 => ?_)
      refine lv_goto (tgt := 41) hx hb dX6_first_84 (by decide) ?_
      refine lv_iload hx hb dX6_first_41 (lv_at hl9 0 rfl) ?_
      refine lv_if_lt (tgt := 87) hx hb dX6_first_43 (by decide) (fun h => absurd h (by decide)) (fun _ => ?_)
      refine lv_iload_n hx hb dX6_first_46 rfl (lv_at hl9 2 rfl) ?_
      refine lv_if_le (tgt := 87) hx hb dX6_first_47 (by decide) (fun h => absurd h (c_1)) (fun _ => ?_)
      refine lv_aload_n hx hb dX6_first_50 rfl (lv_at hl9 3 rfl) ?_
      refine lv_aload_n hx hb dX6_first_51 rfl (lv_at hl9 3 rfl) ?_
      refine z_getf Z Mz9 hin6 0 rfl rfl 15 (by decide) L50 rfl (v := .ref (ad 15)) rfl dX6_first_52 ?_
      refine lv_iload_n hx hb dX6_first_55 rfl (lv_at hl9 4 rfl) ?_
      refine z_iald Z Mz9 14 (h0 := ad 15) (n := 12) (f := τ2 15) rfl (j := i) (by omega) (by decide) dX6_first_56 ?_
      refine zn_top (y := nI (q)) (h15_2) ?_
      refine lv_iload hx hb dX6_first_57 (lv_at hl9 0 rfl) ?_
      refine z_callSi (As := [.int (nI (q)), .int 1]) (rest := [.ref o]) Z.1 (cm_acted l (nI (q)) (1) (by omega)) (va_cwS 2 hts gX6_first_X6_acted rfl rfl rfl (by decide +kernel) ⟨by decide, by decide⟩) rfl hl9.1 (Nat.le_of_ble_eq_true rfl) dX6_first_59 ⟨by decide, by decide⟩ rfl ?_
      have ga1 := (actN_ok q hq 1 (by decide)).2
      refine zn_top (y := nI (actN q 1)) (AC_N hq (by decide)) ?_
      refine lv_iload_n hx hb dX6_first_62 rfl (lv_at hl9 5 rfl) ?_
      refine z_callAi (As := [.int (nI (actN q 1)), .int (nI (t))]) (rest := []) (rv := dist (actN q 1) (t)) (wc' := mW o ad T (upS (upS τ2 29 ((BF (τ2 29) (τ2 30) (actN q 1)).1)) 30 ((BF (τ2 29) (τ2 30) (actN q 1)).2.1))) Z Mz9 (cm_fewestFrom l D T o ad (τ2) (actN q 1) (t) (by omega) (by omega)) (cwV 2 hts gX6_first_X6_fewestFrom rfl rfl rfl (by decide +kernel) ⟨by decide, by decide⟩) (va_recv Z.2.1 Mz9.1 (ci := 7) (q0 := 0) rfl rfl) rfl hl9.1 (Nat.le_of_ble_eq_true rfl) dX6_first_63 ⟨by decide, by decide⟩ rfl (fun Hp9 lc9 Mz9 => ?_)
      obtain ⟨τ3, hτ3⟩ : ∃ z, z = upS (upS τ2 29 ((BF (τ2 29) (τ2 30) (actN q 1)).1)) 30 ((BF (τ2 29) (τ2 30) (actN q 1)).2.1) := ⟨_, rfl⟩
      have Mz9 : zM D A s.heap (mW o ad T τ3) _ _ := zM_w (by rw [hτ3]) Mz9
      have h15_3 : τ3 15 i = nI q := by rw [hτ3]; exact h15_2
      have hk_3 : ∀ a, a ≠ 29 → a ≠ 30 → τ3 a = upS σ 31 (fun _ => 0) a := fun a h1 h2 => by rw [hτ3, upS_ne _ _ h2, upS_ne _ _ h1]; exact hk_2 a h1 h2
      refine lv_iload_n hx hb dX6_first_66 rfl (lv_at hl9 2 rfl) ?_
      refine lv_iconst (v := 1) hx hb dX6_first_67 (by decide) ?_
      refine lv_isub hx hb dX6_first_68 ?_
      refine lv_icmp_ne (tgt := 77) hx hb dX6_first_69 (by decide) (fun c_6 => ?_) (fun c_6 => ?_)
      ·
        refine lv_iload hx hb dX6_first_77 (lv_at hl9 1 rfl) ?_
        refine lv_istore (lv' := [(4, .int 2), (5, .int 1), (3, .int (dist (q) (t))), (0, .ref o), (1, .int (nI (i))), (2, .int (nI (t)))]) hx hb dX6_first_79 hl9 (by decide) rfl (fun sl9 hl9 => ?_)
        refine lv_iinc (v := 0) (lv' := [(5, .int 0), (4, .int 2), (3, .int (dist (q) (t))), (0, .ref o), (1, .int (nI (i))), (2, .int (nI (t)))]) hx hb dX6_first_81 hl9 (k := 1) rfl (by decide) (by decide) rfl (fun sl9 hl9 => ?_)
        refine lv_goto (tgt := 41) hx hb dX6_first_84 (by decide) ?_
        refine lv_iload hx hb dX6_first_41 (lv_at hl9 0 rfl) ?_
        refine lv_if_lt (tgt := 87) hx hb dX6_first_43 (by decide) (fun h => absurd h (by decide)) (fun _ => ?_)
        refine lv_iload_n hx hb dX6_first_46 rfl (lv_at hl9 2 rfl) ?_
        refine lv_if_le (tgt := 87) hx hb dX6_first_47 (by decide) (fun h => absurd h (c_1)) (fun _ => ?_)
        refine lv_aload_n hx hb dX6_first_50 rfl (lv_at hl9 3 rfl) ?_
        refine lv_aload_n hx hb dX6_first_51 rfl (lv_at hl9 3 rfl) ?_
        refine z_getf Z Mz9 hin6 0 rfl rfl 15 (by decide) L50 rfl (v := .ref (ad 15)) rfl dX6_first_52 ?_
        refine lv_iload_n hx hb dX6_first_55 rfl (lv_at hl9 4 rfl) ?_
        refine z_iald Z Mz9 14 (h0 := ad 15) (n := 12) (f := τ3 15) rfl (j := i) (by omega) (by decide) dX6_first_56 ?_
        refine zn_top (y := nI (q)) (h15_3) ?_
        refine lv_iload hx hb dX6_first_57 (lv_at hl9 0 rfl) ?_
        refine z_callSi (As := [.int (nI (q)), .int 0]) (rest := [.ref o]) Z.1 (cm_acted l (nI (q)) (0) (by omega)) (va_cwS 2 hts gX6_first_X6_acted rfl rfl rfl (by decide +kernel) ⟨by decide, by decide⟩) rfl hl9.1 (Nat.le_of_ble_eq_true rfl) dX6_first_59 ⟨by decide, by decide⟩ rfl ?_
        have ga0 := (actN_ok q hq 0 (by decide)).2
        refine zn_top (y := nI (actN q 0)) (AC_N hq (by decide)) ?_
        refine lv_iload_n hx hb dX6_first_62 rfl (lv_at hl9 5 rfl) ?_
        refine z_callAi (As := [.int (nI (actN q 0)), .int (nI (t))]) (rest := []) (rv := dist (actN q 0) (t)) (wc' := mW o ad T (upS (upS τ3 29 ((BF (τ3 29) (τ3 30) (actN q 0)).1)) 30 ((BF (τ3 29) (τ3 30) (actN q 0)).2.1))) Z Mz9 (cm_fewestFrom l D T o ad (τ3) (actN q 0) (t) (by omega) (by omega)) (cwV 2 hts gX6_first_X6_fewestFrom rfl rfl rfl (by decide +kernel) ⟨by decide, by decide⟩) (va_recv Z.2.1 Mz9.1 (ci := 7) (q0 := 0) rfl rfl) rfl hl9.1 (Nat.le_of_ble_eq_true rfl) dX6_first_63 ⟨by decide, by decide⟩ rfl (fun Hp9 lc9 Mz9 => ?_)
        obtain ⟨τ4, hτ4⟩ : ∃ z, z = upS (upS τ3 29 ((BF (τ3 29) (τ3 30) (actN q 0)).1)) 30 ((BF (τ3 29) (τ3 30) (actN q 0)).2.1) := ⟨_, rfl⟩
        have Mz9 : zM D A s.heap (mW o ad T τ4) _ _ := zM_w (by rw [hτ4]) Mz9
        have h15_4 : τ4 15 i = nI q := by rw [hτ4]; exact h15_3
        have hk_4 : ∀ a, a ≠ 29 → a ≠ 30 → τ4 a = upS σ 31 (fun _ => 0) a := fun a h1 h2 => by rw [hτ4, upS_ne _ _ h2, upS_ne _ _ h1]; exact hk_3 a h1 h2
        refine lv_iload_n hx hb dX6_first_66 rfl (lv_at hl9 2 rfl) ?_
        refine lv_iconst (v := 1) hx hb dX6_first_67 (by decide) ?_
        refine lv_isub hx hb dX6_first_68 ?_
        refine lv_icmp_ne (tgt := 77) hx hb dX6_first_69 (by decide) (fun c_7 => ?_) (fun c_7 => ?_)
        ·
          refine lv_iload hx hb dX6_first_77 (lv_at hl9 1 rfl) ?_
          refine lv_istore (lv' := [(4, .int 2), (5, .int 0), (3, .int (dist (q) (t))), (0, .ref o), (1, .int (nI (i))), (2, .int (nI (t)))]) hx hb dX6_first_79 hl9 (by decide) rfl (fun sl9 hl9 => ?_)
          refine lv_iinc (v := (-1)) (lv' := [(5, .int (-1)), (4, .int 2), (3, .int (dist (q) (t))), (0, .ref o), (1, .int (nI (i))), (2, .int (nI (t)))]) hx hb dX6_first_81 hl9 (k := 1) rfl (by decide) (by decide) rfl (fun sl9 hl9 => ?_)
          refine lv_goto (tgt := 41) hx hb dX6_first_84 (by decide) ?_
          refine lv_iload hx hb dX6_first_41 (lv_at hl9 0 rfl) ?_
          refine lv_if_lt (tgt := 87) hx hb dX6_first_43 (by decide) (fun _ => ?_) (fun h => absurd h (by decide))
          refine lv_iload hx hb dX6_first_87 (lv_at hl9 1 rfl) ?_
          exact hret _ _ _ _ _ sl9 _ _ ((τ4 29, τ4 30)) Mz9 ((congrArg (mW o ad T) (z_two hk_4)).trans rfl) (by simp only [fstA, if_pos (Int32.not_le.mp c_1), if_pos c_2, if_neg c_6, if_neg c_7]) (rfl) (Nat.le_refl _) (Nat.le_refl _) dX6_first_89
        ·
          refine lv_iload hx hb dX6_first_72 (lv_at hl9 0 rfl) ?_
          refine lv_goto (tgt := 79) hx hb dX6_first_74 (by decide) ?_
          refine lv_istore (lv' := [(4, .int 0), (5, .int 0), (3, .int (dist (q) (t))), (0, .ref o), (1, .int (nI (i))), (2, .int (nI (t)))]) hx hb dX6_first_79 hl9 (by decide) rfl (fun sl9 hl9 => ?_)
          refine lv_iinc (v := (-1)) (lv' := [(5, .int (-1)), (4, .int 0), (3, .int (dist (q) (t))), (0, .ref o), (1, .int (nI (i))), (2, .int (nI (t)))]) hx hb dX6_first_81 hl9 (k := 1) rfl (by decide) (by decide) rfl (fun sl9 hl9 => ?_)
          refine lv_goto (tgt := 41) hx hb dX6_first_84 (by decide) ?_
          refine lv_iload hx hb dX6_first_41 (lv_at hl9 0 rfl) ?_
          refine lv_if_lt (tgt := 87) hx hb dX6_first_43 (by decide) (fun _ => ?_) (fun h => absurd h (by decide))
          refine lv_iload hx hb dX6_first_87 (lv_at hl9 1 rfl) ?_
          exact hret _ _ _ _ _ sl9 _ _ ((τ4 29, τ4 30)) Mz9 ((congrArg (mW o ad T) (z_two hk_4)).trans rfl) (by simp only [fstA, if_pos (Int32.not_le.mp c_1), if_pos c_2, if_neg c_6, if_pos c_7]) (rfl) (Nat.le_refl _) (Nat.le_refl _) dX6_first_89
      ·
        refine lv_iload hx hb dX6_first_72 (lv_at hl9 0 rfl) ?_
        refine lv_goto (tgt := 79) hx hb dX6_first_74 (by decide) ?_
        refine lv_istore (lv' := [(4, .int 1), (5, .int 1), (3, .int (dist (q) (t))), (0, .ref o), (1, .int (nI (i))), (2, .int (nI (t)))]) hx hb dX6_first_79 hl9 (by decide) rfl (fun sl9 hl9 => ?_)
        refine lv_iinc (v := 0) (lv' := [(5, .int 0), (4, .int 1), (3, .int (dist (q) (t))), (0, .ref o), (1, .int (nI (i))), (2, .int (nI (t)))]) hx hb dX6_first_81 hl9 (k := 1) rfl (by decide) (by decide) rfl (fun sl9 hl9 => ?_)
        refine lv_goto (tgt := 41) hx hb dX6_first_84 (by decide) ?_
        refine lv_iload hx hb dX6_first_41 (lv_at hl9 0 rfl) ?_
        refine lv_if_lt (tgt := 87) hx hb dX6_first_43 (by decide) (fun h => absurd h (by decide)) (fun _ => ?_)
        refine lv_iload_n hx hb dX6_first_46 rfl (lv_at hl9 2 rfl) ?_
        refine lv_if_le (tgt := 87) hx hb dX6_first_47 (by decide) (fun h => absurd h (c_1)) (fun _ => ?_)
        refine lv_aload_n hx hb dX6_first_50 rfl (lv_at hl9 3 rfl) ?_
        refine lv_aload_n hx hb dX6_first_51 rfl (lv_at hl9 3 rfl) ?_
        refine z_getf Z Mz9 hin6 0 rfl rfl 15 (by decide) L50 rfl (v := .ref (ad 15)) rfl dX6_first_52 ?_
        refine lv_iload_n hx hb dX6_first_55 rfl (lv_at hl9 4 rfl) ?_
        refine z_iald Z Mz9 14 (h0 := ad 15) (n := 12) (f := τ3 15) rfl (j := i) (by omega) (by decide) dX6_first_56 ?_
        refine zn_top (y := nI (q)) (h15_3) ?_
        refine lv_iload hx hb dX6_first_57 (lv_at hl9 0 rfl) ?_
        refine z_callSi (As := [.int (nI (q)), .int 0]) (rest := [.ref o]) Z.1 (cm_acted l (nI (q)) (0) (by omega)) (va_cwS 2 hts gX6_first_X6_acted rfl rfl rfl (by decide +kernel) ⟨by decide, by decide⟩) rfl hl9.1 (Nat.le_of_ble_eq_true rfl) dX6_first_59 ⟨by decide, by decide⟩ rfl ?_
        have ga0 := (actN_ok q hq 0 (by decide)).2
        refine zn_top (y := nI (actN q 0)) (AC_N hq (by decide)) ?_
        refine lv_iload_n hx hb dX6_first_62 rfl (lv_at hl9 5 rfl) ?_
        refine z_callAi (As := [.int (nI (actN q 0)), .int (nI (t))]) (rest := []) (rv := dist (actN q 0) (t)) (wc' := mW o ad T (upS (upS τ3 29 ((BF (τ3 29) (τ3 30) (actN q 0)).1)) 30 ((BF (τ3 29) (τ3 30) (actN q 0)).2.1))) Z Mz9 (cm_fewestFrom l D T o ad (τ3) (actN q 0) (t) (by omega) (by omega)) (cwV 2 hts gX6_first_X6_fewestFrom rfl rfl rfl (by decide +kernel) ⟨by decide, by decide⟩) (va_recv Z.2.1 Mz9.1 (ci := 7) (q0 := 0) rfl rfl) rfl hl9.1 (Nat.le_of_ble_eq_true rfl) dX6_first_63 ⟨by decide, by decide⟩ rfl (fun Hp9 lc9 Mz9 => ?_)
        obtain ⟨τ4, hτ4⟩ : ∃ z, z = upS (upS τ3 29 ((BF (τ3 29) (τ3 30) (actN q 0)).1)) 30 ((BF (τ3 29) (τ3 30) (actN q 0)).2.1) := ⟨_, rfl⟩
        have Mz9 : zM D A s.heap (mW o ad T τ4) _ _ := zM_w (by rw [hτ4]) Mz9
        have h15_4 : τ4 15 i = nI q := by rw [hτ4]; exact h15_3
        have hk_4 : ∀ a, a ≠ 29 → a ≠ 30 → τ4 a = upS σ 31 (fun _ => 0) a := fun a h1 h2 => by rw [hτ4, upS_ne _ _ h2, upS_ne _ _ h1]; exact hk_3 a h1 h2
        refine lv_iload_n hx hb dX6_first_66 rfl (lv_at hl9 2 rfl) ?_
        refine lv_iconst (v := 1) hx hb dX6_first_67 (by decide) ?_
        refine lv_isub hx hb dX6_first_68 ?_
        refine lv_icmp_ne (tgt := 77) hx hb dX6_first_69 (by decide) (fun c_8 => ?_) (fun c_8 => ?_)
        ·
          refine lv_iload hx hb dX6_first_77 (lv_at hl9 1 rfl) ?_
          refine lv_istore (lv' := [(4, .int 1), (5, .int 0), (3, .int (dist (q) (t))), (0, .ref o), (1, .int (nI (i))), (2, .int (nI (t)))]) hx hb dX6_first_79 hl9 (by decide) rfl (fun sl9 hl9 => ?_)
          refine lv_iinc (v := (-1)) (lv' := [(5, .int (-1)), (4, .int 1), (3, .int (dist (q) (t))), (0, .ref o), (1, .int (nI (i))), (2, .int (nI (t)))]) hx hb dX6_first_81 hl9 (k := 1) rfl (by decide) (by decide) rfl (fun sl9 hl9 => ?_)
          refine lv_goto (tgt := 41) hx hb dX6_first_84 (by decide) ?_
          refine lv_iload hx hb dX6_first_41 (lv_at hl9 0 rfl) ?_
          refine lv_if_lt (tgt := 87) hx hb dX6_first_43 (by decide) (fun _ => ?_) (fun h => absurd h (by decide))
          refine lv_iload hx hb dX6_first_87 (lv_at hl9 1 rfl) ?_
          exact hret _ _ _ _ _ sl9 _ _ ((τ4 29, τ4 30)) Mz9 ((congrArg (mW o ad T) (z_two hk_4)).trans rfl) (by simp only [fstA, if_pos (Int32.not_le.mp c_1), if_pos c_2, if_pos c_6, if_neg c_8]) (rfl) (Nat.le_refl _) (Nat.le_refl _) dX6_first_89
        ·
          refine lv_iload hx hb dX6_first_72 (lv_at hl9 0 rfl) ?_
          refine lv_goto (tgt := 79) hx hb dX6_first_74 (by decide) ?_
          refine lv_istore (lv' := [(4, .int 0), (5, .int 0), (3, .int (dist (q) (t))), (0, .ref o), (1, .int (nI (i))), (2, .int (nI (t)))]) hx hb dX6_first_79 hl9 (by decide) rfl (fun sl9 hl9 => ?_)
          refine lv_iinc (v := (-1)) (lv' := [(5, .int (-1)), (4, .int 0), (3, .int (dist (q) (t))), (0, .ref o), (1, .int (nI (i))), (2, .int (nI (t)))]) hx hb dX6_first_81 hl9 (k := 1) rfl (by decide) (by decide) rfl (fun sl9 hl9 => ?_)
          refine lv_goto (tgt := 41) hx hb dX6_first_84 (by decide) ?_
          refine lv_iload hx hb dX6_first_41 (lv_at hl9 0 rfl) ?_
          refine lv_if_lt (tgt := 87) hx hb dX6_first_43 (by decide) (fun _ => ?_) (fun h => absurd h (by decide))
          refine lv_iload hx hb dX6_first_87 (lv_at hl9 1 rfl) ?_
          exact hret _ _ _ _ _ sl9 _ _ ((τ4 29, τ4 30)) Mz9 ((congrArg (mW o ad T) (z_two hk_4)).trans rfl) (by simp only [fstA, if_pos (Int32.not_le.mp c_1), if_pos c_2, if_pos c_6, if_pos c_8]) (rfl) (Nat.le_refl _) (Nat.le_refl _) dX6_first_89
