/-! ===== laid by program ===== -/
set_option maxHeartbeats 4000000 in
set_option maxRecDepth 100000 in
theorem cm_press_b1 (l : Launch) (D : va_G) (T : Nat → ClassId) (o : Nat) (ad : Nat → Nat) (σ : Nat → Nat → Int32) (b t en : Int32) (hB : bin (b) 0 (σ 5 0 - 1) = 0) : ZI l yX6_press wsX6_press (zrm 3 73) D T (mW o ad T σ) (mW o ad T (upS σ 31 (fun _ => 1))) [.ref o, .int (b), .int (t), .int (en)] (0) 0 0 := by
  refine z_inI (cc := cX6_press) (maxL := 9) (rt := .int) (by decide +kernel) rfl (Nat.le_of_ble_eq_true rfl) ?_
  intro p e s m args below meth c sl9 A Q Z hnm Mz9 hl9 hret
  have Z : zC p s m args c cX6_press 9 RX6 wsX6_press D T A := Z
  have hx := Z.1.1
  have hb := Z.1.2.1
  have hts := Z.1.2.2.2.2
  have hin6 : ∀ w ∈ wsX60, w ∈ wsX6_press := fun w h => List.mem_cons_of_mem _ (List.mem_append_right _ h)
  have hH0 : s.heap = s.heap := rfl
  have L46 := hts (.fieldLink RX6 46 "AnvilHouseModel" "hasCrack" "[Z") (by decide +kernel)
  have L71 := hts (.fieldLink RX6 71 "AnvilHouseModel" "life" "[I") (by decide +kernel)
  have L34 := hts (.fieldLink RX6 34 "AnvilHouseModel" "core" "[I") (by decide +kernel)
  have L25 := hts (.fieldLink RX6 25 "AnvilHouseModel" "areas" "[I") (by decide +kernel)
  have L65 := hts (.fieldLink RX6 65 "AnvilHouseModel" "lost" "[I") (by decide +kernel)
  have hl9 : lv_has sl9 9 [(0, .ref o), (1, .int (b)), (2, .int (t)), (3, .int (en))] := hl9
  refine lv_aload_n hx hb dX6_press_0 rfl (lv_at hl9 0 rfl) ?_
  refine lv_iload_n hx hb dX6_press_1 rfl (lv_at hl9 1 rfl) ?_
  refine z_callAi (As := [.int (b)]) (rest := []) (rv := bin (b) 0 (σ 5 0 - 1)) (wc' := mW o ad T σ) Z Mz9 (cm_isBillet l D T o ad (σ) (b)) (cwV 1 hts gX6_press_X6_isBillet rfl rfl rfl (by decide +kernel) ⟨by decide, by decide⟩) (va_recv Z.2.1 Mz9.1 (ci := 7) (q0 := 0) rfl rfl) rfl hl9.1 (Nat.le_of_ble_eq_true rfl) dX6_press_2 ⟨by decide, by decide⟩ rfl (fun Hp9 lc9 Mz9 => ?_)
  refine zn_top (y := 0) (hB) ?_
  refine lv_if_eq (tgt := 20) hx hb dX6_press_5 (by decide) (fun _ => ?_) (fun h => absurd h (by decide))
  refine lv_iconst (v := 0) hx hb dX6_press_20 (by decide) ?_
  refine lv_istore (lv' := [(4, .int 0), (0, .ref o), (1, .int (b)), (2, .int (t)), (3, .int (en))]) hx hb dX6_press_21 hl9 (by decide) rfl (fun sl9 hl9 => ?_)
  refine lv_aload_n hx hb dX6_press_23 rfl (lv_at hl9 1 rfl) ?_
  refine lv_iload hx hb dX6_press_24 (lv_at hl9 0 rfl) ?_
  refine lv_iload_n hx hb dX6_press_26 rfl (lv_at hl9 4 rfl) ?_
  refine lv_iconst (v := 1) hx hb dX6_press_27 (by decide) ?_
  refine lv_bipush (v := 50) hx hb dX6_press_28 (by decide) ?_
  refine z_callSi (As := [.int (en), .int 1, .int 50]) (rest := [.int 0, .ref o]) Z.1 (cm_in l (en) (1) (50)) (va_cwS 3 hts gX6_press_X6_in rfl rfl rfl (by decide +kernel) ⟨by decide, by decide⟩) rfl hl9.1 (Nat.le_of_ble_eq_true rfl) dX6_press_30 ⟨by decide, by decide⟩ rfl ?_
  refine lv_iload hx hb dX6_press_33 (lv_at hl9 0 rfl) ?_
  refine lv_if_eq (tgt := 78) hx hb dX6_press_35 (by decide) (fun _ => ?_) (fun h => absurd h (by decide))
  refine lv_iconst (v := 0) hx hb dX6_press_78 (by decide) ?_
  refine z_callAi (As := [.int 0, .int (bin (en) (1) (50)), .int 0]) (rest := []) (rv := if gth (0) (bin (en) (1) (50)) (0) = 0 then 1 else 0) (wc' := mW o ad T (upS σ 31 (fun _ => gth (0) (bin (en) (1) (50)) (0)))) Z Mz9 (cm_goes l D T o ad (σ) (0) (bin (en) (1) (50)) (0)) (cwV 3 hts gX6_press_X6_goes rfl rfl rfl (by decide +kernel) ⟨by decide, by decide⟩) (va_recv Z.2.1 Mz9.1 (ci := 7) (q0 := 0) rfl rfl) rfl hl9.1 (Nat.le_of_ble_eq_true rfl) dX6_press_79 ⟨by decide, by decide⟩ rfl (fun Hp9 lc9 Mz9 => ?_)
  refine zn_top (y := 0) (by rw [gth_1]; rfl) ?_
  refine lv_if_ne (tgt := 87) hx hb dX6_press_82 (by decide) (fun h => absurd h (by decide)) (fun _ => ?_)
  refine lv_iconst (v := 0) hx hb dX6_press_85 (by decide) ?_
  exact hret _ _ _ _ _ sl9 _ _ Mz9 (by rw [gth_1]) (rfl) (rfl) (Nat.le_refl _) (Nat.le_refl _) dX6_press_86
set_option maxHeartbeats 4000000 in
set_option maxRecDepth 100000 in
theorem cm_press_b1d (l : Launch) (D : va_G) (T : Nat → ClassId) (o : Nat) (ad : Nat → Nat) (σ : Nat → Nat → Int32) (b t en : Int32) (hB : bin (b) 0 (σ 5 0 - 1) = 1) (hD : bin (t) 0 (σ 21 0 - 1) = 0) : ZI l yX6_press wsX6_press (zrm 3 73) D T (mW o ad T σ) (mW o ad T (upS σ 31 (fun _ => 1))) [.ref o, .int (b), .int (t), .int (en)] (0) 0 0 := by
  refine z_inI (cc := cX6_press) (maxL := 9) (rt := .int) (by decide +kernel) rfl (Nat.le_of_ble_eq_true rfl) ?_
  intro p e s m args below meth c sl9 A Q Z hnm Mz9 hl9 hret
  have Z : zC p s m args c cX6_press 9 RX6 wsX6_press D T A := Z
  have hx := Z.1.1
  have hb := Z.1.2.1
  have hts := Z.1.2.2.2.2
  have hin6 : ∀ w ∈ wsX60, w ∈ wsX6_press := fun w h => List.mem_cons_of_mem _ (List.mem_append_right _ h)
  have hH0 : s.heap = s.heap := rfl
  have L46 := hts (.fieldLink RX6 46 "AnvilHouseModel" "hasCrack" "[Z") (by decide +kernel)
  have L71 := hts (.fieldLink RX6 71 "AnvilHouseModel" "life" "[I") (by decide +kernel)
  have L34 := hts (.fieldLink RX6 34 "AnvilHouseModel" "core" "[I") (by decide +kernel)
  have L25 := hts (.fieldLink RX6 25 "AnvilHouseModel" "areas" "[I") (by decide +kernel)
  have L65 := hts (.fieldLink RX6 65 "AnvilHouseModel" "lost" "[I") (by decide +kernel)
  have hl9 : lv_has sl9 9 [(0, .ref o), (1, .int (b)), (2, .int (t)), (3, .int (en))] := hl9
  refine lv_aload_n hx hb dX6_press_0 rfl (lv_at hl9 0 rfl) ?_
  refine lv_iload_n hx hb dX6_press_1 rfl (lv_at hl9 1 rfl) ?_
  refine z_callAi (As := [.int (b)]) (rest := []) (rv := bin (b) 0 (σ 5 0 - 1)) (wc' := mW o ad T σ) Z Mz9 (cm_isBillet l D T o ad (σ) (b)) (cwV 1 hts gX6_press_X6_isBillet rfl rfl rfl (by decide +kernel) ⟨by decide, by decide⟩) (va_recv Z.2.1 Mz9.1 (ci := 7) (q0 := 0) rfl rfl) rfl hl9.1 (Nat.le_of_ble_eq_true rfl) dX6_press_2 ⟨by decide, by decide⟩ rfl (fun Hp9 lc9 Mz9 => ?_)
  refine zn_top (y := 1) (hB) ?_
  refine lv_if_eq (tgt := 20) hx hb dX6_press_5 (by decide) (fun h => absurd h (by decide)) (fun _ => ?_)
  refine lv_aload_n hx hb dX6_press_8 rfl (lv_at hl9 0 rfl) ?_
  refine lv_iload_n hx hb dX6_press_9 rfl (lv_at hl9 2 rfl) ?_
  refine z_callAi (As := [.int (t)]) (rest := []) (rv := bin (t) 0 (σ 21 0 - 1)) (wc' := mW o ad T σ) Z Mz9 (cm_isDie l D T o ad (σ) (t)) (cwV 1 hts gX6_press_X6_isDie rfl rfl rfl (by decide +kernel) ⟨by decide, by decide⟩) (va_recv Z.2.1 Mz9.1 (ci := 7) (q0 := 0) rfl rfl) rfl hl9.1 (Nat.le_of_ble_eq_true rfl) dX6_press_10 ⟨by decide, by decide⟩ rfl (fun Hp9 lc9 Mz9 => ?_)
  refine zn_top (y := 0) (hD) ?_
  refine lv_if_eq (tgt := 20) hx hb dX6_press_13 (by decide) (fun _ => ?_) (fun h => absurd h (by decide))
  refine lv_iconst (v := 0) hx hb dX6_press_20 (by decide) ?_
  refine lv_istore (lv' := [(4, .int 0), (0, .ref o), (1, .int (b)), (2, .int (t)), (3, .int (en))]) hx hb dX6_press_21 hl9 (by decide) rfl (fun sl9 hl9 => ?_)
  refine lv_aload_n hx hb dX6_press_23 rfl (lv_at hl9 1 rfl) ?_
  refine lv_iload hx hb dX6_press_24 (lv_at hl9 0 rfl) ?_
  refine lv_iload_n hx hb dX6_press_26 rfl (lv_at hl9 4 rfl) ?_
  refine lv_iconst (v := 1) hx hb dX6_press_27 (by decide) ?_
  refine lv_bipush (v := 50) hx hb dX6_press_28 (by decide) ?_
  refine z_callSi (As := [.int (en), .int 1, .int 50]) (rest := [.int 0, .ref o]) Z.1 (cm_in l (en) (1) (50)) (va_cwS 3 hts gX6_press_X6_in rfl rfl rfl (by decide +kernel) ⟨by decide, by decide⟩) rfl hl9.1 (Nat.le_of_ble_eq_true rfl) dX6_press_30 ⟨by decide, by decide⟩ rfl ?_
  refine lv_iload hx hb dX6_press_33 (lv_at hl9 0 rfl) ?_
  refine lv_if_eq (tgt := 78) hx hb dX6_press_35 (by decide) (fun _ => ?_) (fun h => absurd h (by decide))
  refine lv_iconst (v := 0) hx hb dX6_press_78 (by decide) ?_
  refine z_callAi (As := [.int 0, .int (bin (en) (1) (50)), .int 0]) (rest := []) (rv := if gth (0) (bin (en) (1) (50)) (0) = 0 then 1 else 0) (wc' := mW o ad T (upS σ 31 (fun _ => gth (0) (bin (en) (1) (50)) (0)))) Z Mz9 (cm_goes l D T o ad (σ) (0) (bin (en) (1) (50)) (0)) (cwV 3 hts gX6_press_X6_goes rfl rfl rfl (by decide +kernel) ⟨by decide, by decide⟩) (va_recv Z.2.1 Mz9.1 (ci := 7) (q0 := 0) rfl rfl) rfl hl9.1 (Nat.le_of_ble_eq_true rfl) dX6_press_79 ⟨by decide, by decide⟩ rfl (fun Hp9 lc9 Mz9 => ?_)
  refine zn_top (y := 0) (by rw [gth_1]; rfl) ?_
  refine lv_if_ne (tgt := 87) hx hb dX6_press_82 (by decide) (fun h => absurd h (by decide)) (fun _ => ?_)
  refine lv_iconst (v := 0) hx hb dX6_press_85 (by decide) ?_
  exact hret _ _ _ _ _ sl9 _ _ Mz9 (by rw [gth_1]) (rfl) (rfl) (Nat.le_refl _) (Nat.le_refl _) dX6_press_86
set_option maxHeartbeats 4000000 in
set_option maxRecDepth 100000 in
theorem cm_press_b2 (l : Launch) (D : va_G) (T : Nat → ClassId) (o : Nat) (ad : Nat → Nat) (σ : Nat → Nat → Int32) (i d : Nat) (en : Int32) (hi : i < 12) (hd : d < 4) (h1 : bin (nI i) 0 (σ 5 0 - 1) = 1) (h2 : bin (nI d) 0 (σ 21 0 - 1) = 1) (hg : ¬ gth (1) (bin (en) (1) (50)) (if σ 14 i = 0 then (if 0 < σ 23 d then 1 else 0) else 0) = 0) : ZI l yX6_press wsX6_press (zrm 3 73) D T (mW o ad T σ) (mW o ad T (upS σ 31 (fun _ => gth (1) (bin (en) (1) (50)) (if σ 14 i = 0 then (if 0 < σ 23 d then 1 else 0) else 0)))) [.ref o, .int (nI (i)), .int (nI (d)), .int (en)] (0) 0 0 := by
  refine z_inI (cc := cX6_press) (maxL := 9) (rt := .int) (by decide +kernel) rfl (Nat.le_of_ble_eq_true rfl) ?_
  intro p e s m args below meth c sl9 A Q Z hnm Mz9 hl9 hret
  have Z : zC p s m args c cX6_press 9 RX6 wsX6_press D T A := Z
  have hx := Z.1.1
  have hb := Z.1.2.1
  have hts := Z.1.2.2.2.2
  have hin6 : ∀ w ∈ wsX60, w ∈ wsX6_press := fun w h => List.mem_cons_of_mem _ (List.mem_append_right _ h)
  have hH0 : s.heap = s.heap := rfl
  have L46 := hts (.fieldLink RX6 46 "AnvilHouseModel" "hasCrack" "[Z") (by decide +kernel)
  have L71 := hts (.fieldLink RX6 71 "AnvilHouseModel" "life" "[I") (by decide +kernel)
  have L34 := hts (.fieldLink RX6 34 "AnvilHouseModel" "core" "[I") (by decide +kernel)
  have L25 := hts (.fieldLink RX6 25 "AnvilHouseModel" "areas" "[I") (by decide +kernel)
  have L65 := hts (.fieldLink RX6 65 "AnvilHouseModel" "lost" "[I") (by decide +kernel)
  have hl9 : lv_has sl9 9 [(0, .ref o), (1, .int (nI (i))), (2, .int (nI (d))), (3, .int (en))] := hl9
  refine lv_aload_n hx hb dX6_press_0 rfl (lv_at hl9 0 rfl) ?_
  refine lv_iload_n hx hb dX6_press_1 rfl (lv_at hl9 1 rfl) ?_
  refine z_callAi (As := [.int (nI (i))]) (rest := []) (rv := bin (nI (i)) 0 (σ 5 0 - 1)) (wc' := mW o ad T σ) Z Mz9 (cm_isBillet l D T o ad (σ) (nI (i))) (cwV 1 hts gX6_press_X6_isBillet rfl rfl rfl (by decide +kernel) ⟨by decide, by decide⟩) (va_recv Z.2.1 Mz9.1 (ci := 7) (q0 := 0) rfl rfl) rfl hl9.1 (Nat.le_of_ble_eq_true rfl) dX6_press_2 ⟨by decide, by decide⟩ rfl (fun Hp9 lc9 Mz9 => ?_)
  refine zn_top (y := 1) (h1) ?_
  refine lv_if_eq (tgt := 20) hx hb dX6_press_5 (by decide) (fun h => absurd h (by decide)) (fun _ => ?_)
  refine lv_aload_n hx hb dX6_press_8 rfl (lv_at hl9 0 rfl) ?_
  refine lv_iload_n hx hb dX6_press_9 rfl (lv_at hl9 2 rfl) ?_
  refine z_callAi (As := [.int (nI (d))]) (rest := []) (rv := bin (nI (d)) 0 (σ 21 0 - 1)) (wc' := mW o ad T σ) Z Mz9 (cm_isDie l D T o ad (σ) (nI (d))) (cwV 1 hts gX6_press_X6_isDie rfl rfl rfl (by decide +kernel) ⟨by decide, by decide⟩) (va_recv Z.2.1 Mz9.1 (ci := 7) (q0 := 0) rfl rfl) rfl hl9.1 (Nat.le_of_ble_eq_true rfl) dX6_press_10 ⟨by decide, by decide⟩ rfl (fun Hp9 lc9 Mz9 => ?_)
  refine zn_top (y := 1) (h2) ?_
  refine lv_if_eq (tgt := 20) hx hb dX6_press_13 (by decide) (fun h => absurd h (by decide)) (fun _ => ?_)
  refine lv_iconst (v := 1) hx hb dX6_press_16 (by decide) ?_
  refine lv_goto (tgt := 21) hx hb dX6_press_17 (by decide) ?_
  refine lv_istore (lv' := [(4, .int 1), (0, .ref o), (1, .int (nI (i))), (2, .int (nI (d))), (3, .int (en))]) hx hb dX6_press_21 hl9 (by decide) rfl (fun sl9 hl9 => ?_)
  refine lv_aload_n hx hb dX6_press_23 rfl (lv_at hl9 1 rfl) ?_
  refine lv_iload hx hb dX6_press_24 (lv_at hl9 0 rfl) ?_
  refine lv_iload_n hx hb dX6_press_26 rfl (lv_at hl9 4 rfl) ?_
  refine lv_iconst (v := 1) hx hb dX6_press_27 (by decide) ?_
  refine lv_bipush (v := 50) hx hb dX6_press_28 (by decide) ?_
  refine z_callSi (As := [.int (en), .int 1, .int 50]) (rest := [.int 1, .ref o]) Z.1 (cm_in l (en) (1) (50)) (va_cwS 3 hts gX6_press_X6_in rfl rfl rfl (by decide +kernel) ⟨by decide, by decide⟩) rfl hl9.1 (Nat.le_of_ble_eq_true rfl) dX6_press_30 ⟨by decide, by decide⟩ rfl ?_
  refine lv_iload hx hb dX6_press_33 (lv_at hl9 0 rfl) ?_
  refine lv_if_eq (tgt := 78) hx hb dX6_press_35 (by decide) (fun h => absurd h (by decide)) (fun _ => ?_)
  refine lv_aload_n hx hb dX6_press_38 rfl (lv_at hl9 1 rfl) ?_
  refine z_getf Z Mz9 hin6 0 rfl rfl 14 (by decide) L46 rfl (v := .ref (ad 14)) rfl dX6_press_39 ?_
  refine lv_iload hx hb dX6_press_42 (lv_at hl9 0 rfl) ?_
  refine lv_if_eq (tgt := 51) hx hb dX6_press_44 (by decide) (fun h => absurd h (by decide)) (fun _ => ?_)
  refine lv_iload_n hx hb dX6_press_47 rfl (lv_at hl9 2 rfl) ?_
  refine lv_goto (tgt := 52) hx hb dX6_press_48 (by decide) ?_
  refine z_zald Z Mz9 13 (h0 := ad 14) (n := 12) (f := σ 14) rfl (j := i) (by omega) (by decide) dX6_press_52 ?_
  refine lv_if_ne (tgt := 78) hx hb dX6_press_53 (by decide) (fun c_1 => ?_) (fun c_1 => ?_)
  ·
    refine lv_iconst (v := 0) hx hb dX6_press_78 (by decide) ?_
    refine z_callAi (As := [.int 1, .int (bin (en) (1) (50)), .int 0]) (rest := []) (rv := if gth (1) (bin (en) (1) (50)) (0) = 0 then 1 else 0) (wc' := mW o ad T (upS σ 31 (fun _ => gth (1) (bin (en) (1) (50)) (0)))) Z Mz9 (cm_goes l D T o ad (σ) (1) (bin (en) (1) (50)) (0)) (cwV 3 hts gX6_press_X6_goes rfl rfl rfl (by decide +kernel) ⟨by decide, by decide⟩) (va_recv Z.2.1 Mz9.1 (ci := 7) (q0 := 0) rfl rfl) rfl hl9.1 (Nat.le_of_ble_eq_true rfl) dX6_press_79 ⟨by decide, by decide⟩ rfl (fun Hp9 lc9 Mz9 => ?_)
    refine zn_top (y := 0) (by have h := hg; simp only [if_neg c_1] at h; exact if_neg h) ?_
    refine lv_if_ne (tgt := 87) hx hb dX6_press_82 (by decide) (fun h => absurd h (by decide)) (fun _ => ?_)
    refine lv_iconst (v := 0) hx hb dX6_press_85 (by decide) ?_
    exact hret _ _ _ _ _ sl9 _ _ Mz9 (by simp only [if_neg c_1] <;> rfl) (rfl) (rfl) (Nat.le_refl _) (Nat.le_refl _) dX6_press_86
  ·
    refine lv_aload_n hx hb dX6_press_56 rfl (lv_at hl9 1 rfl) ?_
    refine z_getf Z Mz9 hin6 0 rfl rfl 23 (by decide) L71 rfl (v := .ref (ad 23)) rfl dX6_press_57 ?_
    refine lv_iload hx hb dX6_press_60 (lv_at hl9 0 rfl) ?_
    refine lv_if_eq (tgt := 69) hx hb dX6_press_62 (by decide) (fun h => absurd h (by decide)) (fun _ => ?_)
    refine lv_iload_n hx hb dX6_press_65 rfl (lv_at hl9 3 rfl) ?_
    refine lv_goto (tgt := 70) hx hb dX6_press_66 (by decide) ?_
    refine z_iald Z Mz9 21 (h0 := ad 23) (n := 4) (f := σ 23) rfl (j := d) (by omega) (by decide) dX6_press_70 ?_
    refine lv_if_le (tgt := 78) hx hb dX6_press_71 (by decide) (fun c_2 => ?_) (fun c_2 => ?_)
    ·
      refine lv_iconst (v := 0) hx hb dX6_press_78 (by decide) ?_
      refine z_callAi (As := [.int 1, .int (bin (en) (1) (50)), .int 0]) (rest := []) (rv := if gth (1) (bin (en) (1) (50)) (0) = 0 then 1 else 0) (wc' := mW o ad T (upS σ 31 (fun _ => gth (1) (bin (en) (1) (50)) (0)))) Z Mz9 (cm_goes l D T o ad (σ) (1) (bin (en) (1) (50)) (0)) (cwV 3 hts gX6_press_X6_goes rfl rfl rfl (by decide +kernel) ⟨by decide, by decide⟩) (va_recv Z.2.1 Mz9.1 (ci := 7) (q0 := 0) rfl rfl) rfl hl9.1 (Nat.le_of_ble_eq_true rfl) dX6_press_79 ⟨by decide, by decide⟩ rfl (fun Hp9 lc9 Mz9 => ?_)
      refine zn_top (y := 0) (by have h := hg; simp only [if_pos c_1, if_neg (Int32.not_lt.mpr c_2)] at h; exact if_neg h) ?_
      refine lv_if_ne (tgt := 87) hx hb dX6_press_82 (by decide) (fun h => absurd h (by decide)) (fun _ => ?_)
      refine lv_iconst (v := 0) hx hb dX6_press_85 (by decide) ?_
      exact hret _ _ _ _ _ sl9 _ _ Mz9 (by simp only [if_pos c_1, if_neg (Int32.not_lt.mpr c_2)] <;> rfl) (rfl) (rfl) (Nat.le_refl _) (Nat.le_refl _) dX6_press_86
    ·
      refine lv_iconst (v := 1) hx hb dX6_press_74 (by decide) ?_
      refine lv_goto (tgt := 79) hx hb dX6_press_75 (by decide) ?_
      refine z_callAi (As := [.int 1, .int (bin (en) (1) (50)), .int 1]) (rest := []) (rv := if gth (1) (bin (en) (1) (50)) (1) = 0 then 1 else 0) (wc' := mW o ad T (upS σ 31 (fun _ => gth (1) (bin (en) (1) (50)) (1)))) Z Mz9 (cm_goes l D T o ad (σ) (1) (bin (en) (1) (50)) (1)) (cwV 3 hts gX6_press_X6_goes rfl rfl rfl (by decide +kernel) ⟨by decide, by decide⟩) (va_recv Z.2.1 Mz9.1 (ci := 7) (q0 := 0) rfl rfl) rfl hl9.1 (Nat.le_of_ble_eq_true rfl) dX6_press_79 ⟨by decide, by decide⟩ rfl (fun Hp9 lc9 Mz9 => ?_)
      refine zn_top (y := 0) (by have h := hg; simp only [if_pos c_1, if_pos (Int32.not_le.mp c_2)] at h; exact if_neg h) ?_
      refine lv_if_ne (tgt := 87) hx hb dX6_press_82 (by decide) (fun h => absurd h (by decide)) (fun _ => ?_)
      refine lv_iconst (v := 0) hx hb dX6_press_85 (by decide) ?_
      exact hret _ _ _ _ _ sl9 _ _ Mz9 (by simp only [if_pos c_1, if_pos (Int32.not_le.mp c_2)] <;> rfl) (rfl) (rfl) (Nat.le_refl _) (Nat.le_refl _) dX6_press_86
set_option maxHeartbeats 4000000 in
set_option maxRecDepth 100000 in
theorem cm_press_crack (l : Launch) (D : va_G) (T : Nat → ClassId) (o : Nat) (ad : Nat → Nat) (σ : Nat → Nat → Int32) (i d en cn : Nat) (hi : i < 12) (hd : d < 4) (h1 : bin (nI i) 0 (σ 5 0 - 1) = 1) (h2 : bin (nI d) 0 (σ 21 0 - 1) = 1) (h3 : bin (nI en) 1 50 = 1) (h14 : σ 14 i = 0) (h23 : 0 < σ 23 d) (h10 : σ 10 i = nI cn) (hcn : cn < 700) : ZI l yX6_press wsX6_press (zrm 3 73) D T (mW o ad T σ) (mW o ad T (upS (upS σ 14 (upd (σ 14) i 1)) 31 (fun _ => 0))) [.ref o, .int (nI (i)), .int (nI (d)), .int (nI (en))] (-1) 0 0 := by
  refine z_inI (cc := cX6_press) (maxL := 9) (rt := .int) (by decide +kernel) rfl (Nat.le_of_ble_eq_true rfl) ?_
  intro p e s m args below meth c sl9 A Q Z hnm Mz9 hl9 hret
  have Z : zC p s m args c cX6_press 9 RX6 wsX6_press D T A := Z
  have hx := Z.1.1
  have hb := Z.1.2.1
  have hts := Z.1.2.2.2.2
  have hin6 : ∀ w ∈ wsX60, w ∈ wsX6_press := fun w h => List.mem_cons_of_mem _ (List.mem_append_right _ h)
  have hH0 : s.heap = s.heap := rfl
  have L46 := hts (.fieldLink RX6 46 "AnvilHouseModel" "hasCrack" "[Z") (by decide +kernel)
  have L71 := hts (.fieldLink RX6 71 "AnvilHouseModel" "life" "[I") (by decide +kernel)
  have L34 := hts (.fieldLink RX6 34 "AnvilHouseModel" "core" "[I") (by decide +kernel)
  have L25 := hts (.fieldLink RX6 25 "AnvilHouseModel" "areas" "[I") (by decide +kernel)
  have L65 := hts (.fieldLink RX6 65 "AnvilHouseModel" "lost" "[I") (by decide +kernel)
  have hl9 : lv_has sl9 9 [(0, .ref o), (1, .int (nI (i))), (2, .int (nI (d))), (3, .int (nI (en)))] := hl9
  refine lv_aload_n hx hb dX6_press_0 rfl (lv_at hl9 0 rfl) ?_
  refine lv_iload_n hx hb dX6_press_1 rfl (lv_at hl9 1 rfl) ?_
  refine z_callAi (As := [.int (nI (i))]) (rest := []) (rv := bin (nI (i)) 0 (σ 5 0 - 1)) (wc' := mW o ad T σ) Z Mz9 (cm_isBillet l D T o ad (σ) (nI (i))) (cwV 1 hts gX6_press_X6_isBillet rfl rfl rfl (by decide +kernel) ⟨by decide, by decide⟩) (va_recv Z.2.1 Mz9.1 (ci := 7) (q0 := 0) rfl rfl) rfl hl9.1 (Nat.le_of_ble_eq_true rfl) dX6_press_2 ⟨by decide, by decide⟩ rfl (fun Hp9 lc9 Mz9 => ?_)
  refine zn_top (y := 1) (h1) ?_
  refine lv_if_eq (tgt := 20) hx hb dX6_press_5 (by decide) (fun h => absurd h (by decide)) (fun _ => ?_)
  refine lv_aload_n hx hb dX6_press_8 rfl (lv_at hl9 0 rfl) ?_
  refine lv_iload_n hx hb dX6_press_9 rfl (lv_at hl9 2 rfl) ?_
  refine z_callAi (As := [.int (nI (d))]) (rest := []) (rv := bin (nI (d)) 0 (σ 21 0 - 1)) (wc' := mW o ad T σ) Z Mz9 (cm_isDie l D T o ad (σ) (nI (d))) (cwV 1 hts gX6_press_X6_isDie rfl rfl rfl (by decide +kernel) ⟨by decide, by decide⟩) (va_recv Z.2.1 Mz9.1 (ci := 7) (q0 := 0) rfl rfl) rfl hl9.1 (Nat.le_of_ble_eq_true rfl) dX6_press_10 ⟨by decide, by decide⟩ rfl (fun Hp9 lc9 Mz9 => ?_)
  refine zn_top (y := 1) (h2) ?_
  refine lv_if_eq (tgt := 20) hx hb dX6_press_13 (by decide) (fun h => absurd h (by decide)) (fun _ => ?_)
  refine lv_iconst (v := 1) hx hb dX6_press_16 (by decide) ?_
  refine lv_goto (tgt := 21) hx hb dX6_press_17 (by decide) ?_
  refine lv_istore (lv' := [(4, .int 1), (0, .ref o), (1, .int (nI (i))), (2, .int (nI (d))), (3, .int (nI (en)))]) hx hb dX6_press_21 hl9 (by decide) rfl (fun sl9 hl9 => ?_)
  refine lv_aload_n hx hb dX6_press_23 rfl (lv_at hl9 1 rfl) ?_
  refine lv_iload hx hb dX6_press_24 (lv_at hl9 0 rfl) ?_
  refine lv_iload_n hx hb dX6_press_26 rfl (lv_at hl9 4 rfl) ?_
  refine lv_iconst (v := 1) hx hb dX6_press_27 (by decide) ?_
  refine lv_bipush (v := 50) hx hb dX6_press_28 (by decide) ?_
  refine z_callSi (As := [.int (nI (en)), .int 1, .int 50]) (rest := [.int 1, .ref o]) Z.1 (cm_in l (nI (en)) (1) (50)) (va_cwS 3 hts gX6_press_X6_in rfl rfl rfl (by decide +kernel) ⟨by decide, by decide⟩) rfl hl9.1 (Nat.le_of_ble_eq_true rfl) dX6_press_30 ⟨by decide, by decide⟩ rfl ?_
  refine zn_top (y := 1) (h3) ?_
  refine lv_iload hx hb dX6_press_33 (lv_at hl9 0 rfl) ?_
  refine lv_if_eq (tgt := 78) hx hb dX6_press_35 (by decide) (fun h => absurd h (by decide)) (fun _ => ?_)
  refine lv_aload_n hx hb dX6_press_38 rfl (lv_at hl9 1 rfl) ?_
  refine z_getf Z Mz9 hin6 0 rfl rfl 14 (by decide) L46 rfl (v := .ref (ad 14)) rfl dX6_press_39 ?_
  refine lv_iload hx hb dX6_press_42 (lv_at hl9 0 rfl) ?_
  refine lv_if_eq (tgt := 51) hx hb dX6_press_44 (by decide) (fun h => absurd h (by decide)) (fun _ => ?_)
  refine lv_iload_n hx hb dX6_press_47 rfl (lv_at hl9 2 rfl) ?_
  refine lv_goto (tgt := 52) hx hb dX6_press_48 (by decide) ?_
  refine z_zald Z Mz9 13 (h0 := ad 14) (n := 12) (f := σ 14) rfl (j := i) (by omega) (by decide) dX6_press_52 ?_
  refine zn_top (y := 0) (h14) ?_
  refine lv_if_ne (tgt := 78) hx hb dX6_press_53 (by decide) (fun h => absurd h (by decide)) (fun _ => ?_)
  refine lv_aload_n hx hb dX6_press_56 rfl (lv_at hl9 1 rfl) ?_
  refine z_getf Z Mz9 hin6 0 rfl rfl 23 (by decide) L71 rfl (v := .ref (ad 23)) rfl dX6_press_57 ?_
  refine lv_iload hx hb dX6_press_60 (lv_at hl9 0 rfl) ?_
  refine lv_if_eq (tgt := 69) hx hb dX6_press_62 (by decide) (fun h => absurd h (by decide)) (fun _ => ?_)
  refine lv_iload_n hx hb dX6_press_65 rfl (lv_at hl9 3 rfl) ?_
  refine lv_goto (tgt := 70) hx hb dX6_press_66 (by decide) ?_
  refine z_iald Z Mz9 21 (h0 := ad 23) (n := 4) (f := σ 23) rfl (j := d) (by omega) (by decide) dX6_press_70 ?_
  refine lv_if_le (tgt := 78) hx hb dX6_press_71 (by decide) (fun h => absurd h (Int32.not_le.mpr h23)) (fun _ => ?_)
  refine lv_iconst (v := 1) hx hb dX6_press_74 (by decide) ?_
  refine lv_goto (tgt := 79) hx hb dX6_press_75 (by decide) ?_
  refine z_callAi (As := [.int 1, .int 1, .int 1]) (rest := []) (rv := if gth (1) (1) (1) = 0 then 1 else 0) (wc' := mW o ad T (upS σ 31 (fun _ => 0))) Z Mz9 (cm_goes l D T o ad (σ) (1) (1) (1)) (cwV 3 hts gX6_press_X6_goes rfl rfl rfl (by decide +kernel) ⟨by decide, by decide⟩) (va_recv Z.2.1 Mz9.1 (ci := 7) (q0 := 0) rfl rfl) rfl hl9.1 (Nat.le_of_ble_eq_true rfl) dX6_press_79 ⟨by decide, by decide⟩ rfl (fun Hp9 lc9 Mz9 => ?_)
  refine zn_top (y := 1) (by decide) ?_
  refine lv_if_ne (tgt := 87) hx hb dX6_press_82 (by decide) (fun _ => ?_) (fun h => absurd h (by decide))
  refine lv_aload_n hx hb dX6_press_87 rfl (lv_at hl9 1 rfl) ?_
  refine z_getf Z Mz9 hin6 0 rfl rfl 10 (by decide) L34 rfl (v := .ref (ad 10)) rfl dX6_press_88 ?_
  refine lv_iload_n hx hb dX6_press_91 rfl (lv_at hl9 2 rfl) ?_
  refine z_iald Z Mz9 9 (h0 := ad 10) (n := 12) (f := σ 10) rfl (j := i) (by omega) (by decide) dX6_press_92 ?_
  refine zn_top (y := nI (cn)) (h10) ?_
  refine lv_sipush (v := 700) hx hb dX6_press_93 (by decide) ?_
  refine zn_icmp_ge (a := cn) (b := 700) (tgt := 108) (by omega) (by decide) hx hb dX6_press_96 (by decide) (fun h => absurd h (by omega)) (fun _ => ?_)
  refine lv_aload_n hx hb dX6_press_99 rfl (lv_at hl9 1 rfl) ?_
  refine z_getf Z Mz9 hin6 0 rfl rfl 14 (by decide) L46 rfl (v := .ref (ad 14)) rfl dX6_press_100 ?_
  refine lv_iload_n hx hb dX6_press_103 rfl (lv_at hl9 2 rfl) ?_
  refine lv_iconst (v := 1) hx hb dX6_press_104 (by decide) ?_
  refine z_zast Z Mz9 13 (h0 := ad 14) (n := 12) (f := σ 14) rfl (j := i) (x := 1) (by omega) (by decide) (hx1 := by decide) (ws' := mW o ad T (upS (upS σ 14 (upd (σ 14) i 1)) 31 (fun _ => 0))) rfl dX6_press_105 (fun Hp9 lc9 Mz9 => ?_)
  refine lv_iconst (v := (-1)) hx hb dX6_press_106 (by decide) ?_
  exact hret _ _ _ _ _ sl9 _ _ Mz9 (rfl) (rfl) (rfl) (Nat.le_refl _) (Nat.le_refl _) dX6_press_107
set_option maxHeartbeats 4000000 in
set_option maxRecDepth 100000 in
theorem cm_press_ok3 (l : Launch) (D : va_G) (T : Nat → ClassId) (o : Nat) (ad : Nat → Nat) (σ : Nat → Nat → Int32) (i d en cn : Nat) (hi : i < 12) (hd : d < 4) (h1 : bin (nI i) 0 (σ 5 0 - 1) = 1) (h2 : bin (nI d) 0 (σ 21 0 - 1) = 1) (h3 : bin (nI en) 1 50 = 1) (h14 : σ 14 i = 0) (h23 : 0 < σ 23 d) (h10 : σ 10 i = nI cn) (hcn : 700 ≤ cn) (hc9 : cn < 900) (hen : en ≤ 50) (hcm : cn ≤ 1300) (hec : en * cn < 2 ^ 31) (sk : Int32) (h9 : σ 9 i = sk) : ZI l yX6_press wsX6_press (zrm 3 73) D T (mW o ad T σ) (mW o ad T (upS (upS (upS (upS (upS (upS σ 7 (if CB (ovr (FL (σ 22) (8 * i) (8 * d) (en * cn / 1000) (σ 7)) (σ 22) (8 * i) (8 * d)) = 0 then FA (σ 22) (8 * i) (8 * d) (FL (σ 22) (8 * i) (8 * d) (en * cn / 1000) (σ 7)) else (FL (σ 22) (8 * i) (8 * d) (en * cn / 1000) (σ 7)))) 9 (upd (σ 9) i (clS sk))) 10 (upd (σ 10) i (wrm (clS sk) (nI cn)))) 20 (upd (σ 20) i (if CB (ovr (FL (σ 22) (8 * i) (8 * d) (en * cn / 1000) (σ 7)) (σ 22) (8 * i) (8 * d)) = 0 then FB (σ 22) (8 * i) (8 * d) (FL (σ 22) (8 * i) (8 * d) (en * cn / 1000) (σ 7)) (σ 20 i) else σ 20 i))) 23 (upd (σ 23) d (lifv (σ 23 d) 3))) 31 (fun _ => 0))) [.ref o, .int (nI (i)), .int (nI (d)), .int (nI (en))] (CB (ovr (FL (σ 22) (8 * i) (8 * d) (en * cn / 1000) (σ 7)) (σ 22) (8 * i) (8 * d))) 0 0 := by
  refine z_inI (cc := cX6_press) (maxL := 9) (rt := .int) (by decide +kernel) rfl (Nat.le_of_ble_eq_true rfl) ?_
  intro p e s m args below meth c sl9 A Q Z hnm Mz9 hl9 hret
  have Z : zC p s m args c cX6_press 9 RX6 wsX6_press D T A := Z
  have hx := Z.1.1
  have hb := Z.1.2.1
  have hts := Z.1.2.2.2.2
  have hin6 : ∀ w ∈ wsX60, w ∈ wsX6_press := fun w h => List.mem_cons_of_mem _ (List.mem_append_right _ h)
  have hH0 : s.heap = s.heap := rfl
  have L46 := hts (.fieldLink RX6 46 "AnvilHouseModel" "hasCrack" "[Z") (by decide +kernel)
  have L71 := hts (.fieldLink RX6 71 "AnvilHouseModel" "life" "[I") (by decide +kernel)
  have L34 := hts (.fieldLink RX6 34 "AnvilHouseModel" "core" "[I") (by decide +kernel)
  have L25 := hts (.fieldLink RX6 25 "AnvilHouseModel" "areas" "[I") (by decide +kernel)
  have L65 := hts (.fieldLink RX6 65 "AnvilHouseModel" "lost" "[I") (by decide +kernel)
  have hl9 : lv_has sl9 9 [(0, .ref o), (1, .int (nI (i))), (2, .int (nI (d))), (3, .int (nI (en)))] := hl9
  refine lv_aload_n hx hb dX6_press_0 rfl (lv_at hl9 0 rfl) ?_
  refine lv_iload_n hx hb dX6_press_1 rfl (lv_at hl9 1 rfl) ?_
  refine z_callAi (As := [.int (nI (i))]) (rest := []) (rv := bin (nI (i)) 0 (σ 5 0 - 1)) (wc' := mW o ad T σ) Z Mz9 (cm_isBillet l D T o ad (σ) (nI (i))) (cwV 1 hts gX6_press_X6_isBillet rfl rfl rfl (by decide +kernel) ⟨by decide, by decide⟩) (va_recv Z.2.1 Mz9.1 (ci := 7) (q0 := 0) rfl rfl) rfl hl9.1 (Nat.le_of_ble_eq_true rfl) dX6_press_2 ⟨by decide, by decide⟩ rfl (fun Hp9 lc9 Mz9 => ?_)
  refine zn_top (y := 1) (h1) ?_
  refine lv_if_eq (tgt := 20) hx hb dX6_press_5 (by decide) (fun h => absurd h (by decide)) (fun _ => ?_)
  refine lv_aload_n hx hb dX6_press_8 rfl (lv_at hl9 0 rfl) ?_
  refine lv_iload_n hx hb dX6_press_9 rfl (lv_at hl9 2 rfl) ?_
  refine z_callAi (As := [.int (nI (d))]) (rest := []) (rv := bin (nI (d)) 0 (σ 21 0 - 1)) (wc' := mW o ad T σ) Z Mz9 (cm_isDie l D T o ad (σ) (nI (d))) (cwV 1 hts gX6_press_X6_isDie rfl rfl rfl (by decide +kernel) ⟨by decide, by decide⟩) (va_recv Z.2.1 Mz9.1 (ci := 7) (q0 := 0) rfl rfl) rfl hl9.1 (Nat.le_of_ble_eq_true rfl) dX6_press_10 ⟨by decide, by decide⟩ rfl (fun Hp9 lc9 Mz9 => ?_)
  refine zn_top (y := 1) (h2) ?_
  refine lv_if_eq (tgt := 20) hx hb dX6_press_13 (by decide) (fun h => absurd h (by decide)) (fun _ => ?_)
  refine lv_iconst (v := 1) hx hb dX6_press_16 (by decide) ?_
  refine lv_goto (tgt := 21) hx hb dX6_press_17 (by decide) ?_
  refine lv_istore (lv' := [(4, .int 1), (0, .ref o), (1, .int (nI (i))), (2, .int (nI (d))), (3, .int (nI (en)))]) hx hb dX6_press_21 hl9 (by decide) rfl (fun sl9 hl9 => ?_)
  refine lv_aload_n hx hb dX6_press_23 rfl (lv_at hl9 1 rfl) ?_
  refine lv_iload hx hb dX6_press_24 (lv_at hl9 0 rfl) ?_
  refine lv_iload_n hx hb dX6_press_26 rfl (lv_at hl9 4 rfl) ?_
  refine lv_iconst (v := 1) hx hb dX6_press_27 (by decide) ?_
  refine lv_bipush (v := 50) hx hb dX6_press_28 (by decide) ?_
  refine z_callSi (As := [.int (nI (en)), .int 1, .int 50]) (rest := [.int 1, .ref o]) Z.1 (cm_in l (nI (en)) (1) (50)) (va_cwS 3 hts gX6_press_X6_in rfl rfl rfl (by decide +kernel) ⟨by decide, by decide⟩) rfl hl9.1 (Nat.le_of_ble_eq_true rfl) dX6_press_30 ⟨by decide, by decide⟩ rfl ?_
  refine zn_top (y := 1) (h3) ?_
  refine lv_iload hx hb dX6_press_33 (lv_at hl9 0 rfl) ?_
  refine lv_if_eq (tgt := 78) hx hb dX6_press_35 (by decide) (fun h => absurd h (by decide)) (fun _ => ?_)
  refine lv_aload_n hx hb dX6_press_38 rfl (lv_at hl9 1 rfl) ?_
  refine z_getf Z Mz9 hin6 0 rfl rfl 14 (by decide) L46 rfl (v := .ref (ad 14)) rfl dX6_press_39 ?_
  refine lv_iload hx hb dX6_press_42 (lv_at hl9 0 rfl) ?_
  refine lv_if_eq (tgt := 51) hx hb dX6_press_44 (by decide) (fun h => absurd h (by decide)) (fun _ => ?_)
  refine lv_iload_n hx hb dX6_press_47 rfl (lv_at hl9 2 rfl) ?_
  refine lv_goto (tgt := 52) hx hb dX6_press_48 (by decide) ?_
  refine z_zald Z Mz9 13 (h0 := ad 14) (n := 12) (f := σ 14) rfl (j := i) (by omega) (by decide) dX6_press_52 ?_
  refine zn_top (y := 0) (h14) ?_
  refine lv_if_ne (tgt := 78) hx hb dX6_press_53 (by decide) (fun h => absurd h (by decide)) (fun _ => ?_)
  refine lv_aload_n hx hb dX6_press_56 rfl (lv_at hl9 1 rfl) ?_
  refine z_getf Z Mz9 hin6 0 rfl rfl 23 (by decide) L71 rfl (v := .ref (ad 23)) rfl dX6_press_57 ?_
  refine lv_iload hx hb dX6_press_60 (lv_at hl9 0 rfl) ?_
  refine lv_if_eq (tgt := 69) hx hb dX6_press_62 (by decide) (fun h => absurd h (by decide)) (fun _ => ?_)
  refine lv_iload_n hx hb dX6_press_65 rfl (lv_at hl9 3 rfl) ?_
  refine lv_goto (tgt := 70) hx hb dX6_press_66 (by decide) ?_
  refine z_iald Z Mz9 21 (h0 := ad 23) (n := 4) (f := σ 23) rfl (j := d) (by omega) (by decide) dX6_press_70 ?_
  refine lv_if_le (tgt := 78) hx hb dX6_press_71 (by decide) (fun h => absurd h (Int32.not_le.mpr h23)) (fun _ => ?_)
  refine lv_iconst (v := 1) hx hb dX6_press_74 (by decide) ?_
  refine lv_goto (tgt := 79) hx hb dX6_press_75 (by decide) ?_
  refine z_callAi (As := [.int 1, .int 1, .int 1]) (rest := []) (rv := if gth (1) (1) (1) = 0 then 1 else 0) (wc' := mW o ad T (upS σ 31 (fun _ => 0))) Z Mz9 (cm_goes l D T o ad (σ) (1) (1) (1)) (cwV 3 hts gX6_press_X6_goes rfl rfl rfl (by decide +kernel) ⟨by decide, by decide⟩) (va_recv Z.2.1 Mz9.1 (ci := 7) (q0 := 0) rfl rfl) rfl hl9.1 (Nat.le_of_ble_eq_true rfl) dX6_press_79 ⟨by decide, by decide⟩ rfl (fun Hp9 lc9 Mz9 => ?_)
  refine zn_top (y := 1) (by decide) ?_
  refine lv_if_ne (tgt := 87) hx hb dX6_press_82 (by decide) (fun _ => ?_) (fun h => absurd h (by decide))
  refine lv_aload_n hx hb dX6_press_87 rfl (lv_at hl9 1 rfl) ?_
  refine z_getf Z Mz9 hin6 0 rfl rfl 10 (by decide) L34 rfl (v := .ref (ad 10)) rfl dX6_press_88 ?_
  refine lv_iload_n hx hb dX6_press_91 rfl (lv_at hl9 2 rfl) ?_
  refine z_iald Z Mz9 9 (h0 := ad 10) (n := 12) (f := σ 10) rfl (j := i) (by omega) (by decide) dX6_press_92 ?_
  refine zn_top (y := nI (cn)) (h10) ?_
  refine lv_sipush (v := 700) hx hb dX6_press_93 (by decide) ?_
  refine zn_icmp_ge (a := cn) (b := 700) (tgt := 108) (by omega) (by decide) hx hb dX6_press_96 (by decide) (fun _ => ?_) (fun h => absurd h (by omega))
  refine lv_aload_n hx hb dX6_press_108 rfl (lv_at hl9 1 rfl) ?_
  refine z_getf Z Mz9 hin6 0 rfl rfl 10 (by decide) L34 rfl (v := .ref (ad 10)) rfl dX6_press_109 ?_
  refine lv_iload_n hx hb dX6_press_112 rfl (lv_at hl9 2 rfl) ?_
  refine z_iald Z Mz9 9 (h0 := ad 10) (n := 12) (f := σ 10) rfl (j := i) (by omega) (by decide) dX6_press_113 ?_
  refine zn_top (y := nI (cn)) (h10) ?_
  refine lv_sipush (v := 900) hx hb dX6_press_114 (by decide) ?_
  refine zn_icmp_ge (a := cn) (b := 900) (tgt := 124) (by omega) (by decide) hx hb dX6_press_117 (by decide) (fun h => absurd h (by omega)) (fun _ => ?_)
  refine lv_iconst (v := 3) hx hb dX6_press_120 (by decide) ?_
  refine lv_goto (tgt := 125) hx hb dX6_press_121 (by decide) ?_
  refine lv_istore (lv' := [(5, .int 3), (4, .int 1), (0, .ref o), (1, .int (nI (i))), (2, .int (nI (d))), (3, .int (nI (en)))]) hx hb dX6_press_125 hl9 (by decide) rfl (fun sl9 hl9 => ?_)
  refine lv_aload_n hx hb dX6_press_127 rfl (lv_at hl9 2 rfl) ?_
  refine z_getf Z Mz9 hin6 0 rfl rfl 23 (by decide) L71 rfl (v := .ref (ad 23)) rfl dX6_press_128 ?_
  refine lv_iload_n hx hb dX6_press_131 rfl (lv_at hl9 4 rfl) ?_
  refine lv_aload_n hx hb dX6_press_132 rfl (lv_at hl9 2 rfl) ?_
  refine z_getf Z Mz9 hin6 0 rfl rfl 23 (by decide) L71 rfl (v := .ref (ad 23)) rfl dX6_press_133 ?_
  refine lv_iload_n hx hb dX6_press_136 rfl (lv_at hl9 4 rfl) ?_
  refine z_iald Z Mz9 21 (h0 := ad 23) (n := 4) (f := σ 23) rfl (j := d) (by omega) (by decide) dX6_press_137 ?_
  refine lv_iload hx hb dX6_press_138 (lv_at hl9 0 rfl) ?_
  refine lv_icmp_ge (tgt := 147) hx hb dX6_press_140 (by decide) (fun c_1 => ?_) (fun c_1 => ?_)
  ·
    refine lv_aload_n hx hb dX6_press_147 rfl (lv_at hl9 2 rfl) ?_
    refine z_getf Z Mz9 hin6 0 rfl rfl 23 (by decide) L71 rfl (v := .ref (ad 23)) rfl dX6_press_148 ?_
    refine lv_iload_n hx hb dX6_press_151 rfl (lv_at hl9 4 rfl) ?_
    refine z_iald Z Mz9 21 (h0 := ad 23) (n := 4) (f := σ 23) rfl (j := d) (by omega) (by decide) dX6_press_152 ?_
    refine lv_iload hx hb dX6_press_153 (lv_at hl9 0 rfl) ?_
    refine lv_isub hx hb dX6_press_155 ?_
    refine z_iast Z Mz9 21 (h0 := ad 23) (n := 4) (f := σ 23) rfl (j := d) (x := ((σ 23) d) - 3) (by omega) (by decide) (ws' := mW o ad T (upS (upS σ 23 (upd (σ 23) d (((σ 23) d) - 3))) 31 (fun _ => 0))) rfl dX6_press_156 (fun Hp9 lc9 Mz9 => ?_)
    have Mz9 : zM D A s.heap (mW o ad T (upS (upS σ 23 (upd (σ 23) d (lifv (σ 23 d) 3))) 31 (fun _ => 0))) _ _ := zM_w (by simp only [lifv, if_neg (Int32.not_lt.mpr c_1)]) Mz9
    refine lv_aload_n hx hb dX6_press_157 rfl (lv_at hl9 2 rfl) ?_
    refine lv_iload_n hx hb dX6_press_158 rfl (lv_at hl9 3 rfl) ?_
    refine lv_iload_n hx hb dX6_press_159 rfl (lv_at hl9 4 rfl) ?_
    refine lv_iload_n hx hb dX6_press_160 rfl (lv_at hl9 5 rfl) ?_
    refine lv_aload_n hx hb dX6_press_161 rfl (lv_at hl9 2 rfl) ?_
    refine z_getf Z Mz9 hin6 0 rfl rfl 10 (by decide) L34 rfl (v := .ref (ad 10)) rfl dX6_press_162 ?_
    refine lv_iload_n hx hb dX6_press_165 rfl (lv_at hl9 3 rfl) ?_
    refine z_iald Z Mz9 9 (h0 := ad 10) (n := 12) (f := σ 10) rfl (j := i) (by omega) (by decide) dX6_press_166 ?_
    refine zn_top (y := nI (cn)) (h10) ?_
    refine zn_imul (a := en) (b := cn) hx hb dX6_press_167 ?_
    refine lv_sipush (v := 1000) hx hb dX6_press_168 (by decide) ?_
    refine zn_idiv (a := en * cn) (b := 1000) (by omega) (by decide) (by decide) hx hb dX6_press_171 ?_
    refine z_callAv (As := [.int (nI (i)), .int (nI (d)), .int (nI ((en * cn) / 1000))]) (rest := []) (wc' := mW o ad T (upS (upS (upS σ 7 (FL (σ 22) (8 * i) (8 * d) ((en * cn) / 1000) (σ 7))) 23 (upd (σ 23) d (lifv (σ 23 d) 3))) 31 (fun _ => 0))) Z Mz9 (cm_fills l D T o ad (upS (upS σ 23 (upd (σ 23) d (lifv (σ 23 d) 3))) 31 (fun _ => 0)) (i) (d) ((en * cn) / 1000) (by omega) (by omega) (by omega)) (cwV 3 hts gX6_press_X6_fills rfl rfl rfl (by decide +kernel) ⟨by decide, by decide⟩) (va_recv Z.2.1 Mz9.1 (ci := 7) (q0 := 0) rfl rfl) rfl hl9.1 (Nat.le_of_ble_eq_true rfl) dX6_press_172 ⟨by decide, by decide⟩ rfl (fun Hp9 lc9 Mz9 => ?_)
    refine lv_aload_n hx hb dX6_press_175 rfl (lv_at hl9 2 rfl) ?_
    refine lv_iload_n hx hb dX6_press_176 rfl (lv_at hl9 3 rfl) ?_
    refine z_callAv (As := [.int (nI (i))]) (rest := []) (wc' := mW o ad T (upS (upS (upS (upS (upS σ 7 (FL (σ 22) (8 * i) (8 * d) ((en * cn) / 1000) (σ 7))) 9 (upd (σ 9) i (clS (sk)))) 10 (upd (σ 10) i (wrm (clS (sk)) (nI (cn))))) 23 (upd (σ 23) d (lifv (σ 23 d) 3))) 31 (fun _ => 0))) Z Mz9 (cm_cools l D T o ad (upS (upS (upS σ 7 (FL (σ 22) (8 * i) (8 * d) ((en * cn) / 1000) (σ 7))) 23 (upd (σ 23) d (lifv (σ 23 d) 3))) 31 (fun _ => 0)) (i) (sk) (nI (cn)) (by omega) (h9) (h10)) (cwV 1 hts gX6_press_X6_cools rfl rfl rfl (by decide +kernel) ⟨by decide, by decide⟩) (va_recv Z.2.1 Mz9.1 (ci := 7) (q0 := 0) rfl rfl) rfl hl9.1 (Nat.le_of_ble_eq_true rfl) dX6_press_177 ⟨by decide, by decide⟩ rfl (fun Hp9 lc9 Mz9 => ?_)
    obtain ⟨τ, hτ⟩ : ∃ z, z = upS (upS (upS (upS (upS σ 7 (FL (σ 22) (8 * i) (8 * d) ((en * cn) / 1000) (σ 7))) 9 (upd (σ 9) i (clS (sk)))) 10 (upd (σ 10) i (wrm (clS (sk)) (nI (cn))))) 23 (upd (σ 23) d (lifv (σ 23 d) 3))) 31 (fun _ => 0) := ⟨_, rfl⟩
    have Mz9 : zM D A s.heap (mW o ad T τ) _ _ := zM_w (by rw [hτ]) Mz9
    have h7t : τ 7 = (FL (σ 22) (8 * i) (8 * d) (en * cn / 1000) (σ 7)) := by rw [hτ]; rfl
    have h22t : τ 22 = σ 22 := by rw [hτ]; rfl
    have h20t : τ 20 = σ 20 := by rw [hτ]; rfl
    refine lv_iconst (v := 0) hx hb dX6_press_180 (by decide) ?_
    refine lv_istore (lv' := [(6, .int 0), (5, .int 3), (4, .int 1), (0, .ref o), (1, .int (nI (i))), (2, .int (nI (d))), (3, .int (nI (en)))]) hx hb dX6_press_181 hl9 (by decide) rfl (fun sl9 hl9 => ?_)
    refine lv_iconst (v := 0) hx hb dX6_press_183 (by decide) ?_
    refine lv_istore (lv' := [(7, .int 0), (6, .int 0), (5, .int 3), (4, .int 1), (0, .ref o), (1, .int (nI (i))), (2, .int (nI (d))), (3, .int (nI (en)))]) hx hb dX6_press_184 hl9 (by decide) rfl (fun sl9 hl9 => ?_)
    have LP186_1 : ∀ (n186 k : Nat), k + n186 = 8 → ∀ (Hp9 : Heap) (lc9 : List Loc) (sl9 : Array Slot), zM D A s.heap (mW o ad T τ) Hp9 lc9 → lv_has sl9 9 [(0, .ref o), (1, .int (nI (i))), (2, .int (nI (d))), (3, .int (nI (en))), (4, .int 1), (5, .int 3), (6, .int (cntb (ovr (τ 7) (τ 22) (8 * i) (8 * d)) (k))), (7, .int (nI (k)))] → W p l e (zrm 3 73) s m args below meth c Hp9 lc9 0 0 Q (F0 m 186 sl9 []) := by
      intro n186
      induction n186 with
      | zero =>
        intro k hk9 Hp9 lc9 sl9 Mz9 hl9
        obtain rfl : 8 = k := by omega
        refine lv_iload hx hb dX6_press_186 (lv_at hl9 7 rfl) ?_
        refine lv_bipush (v := 8) hx hb dX6_press_188 (by decide) ?_
        refine zn_icmp_ge (a := 8) (b := 8) (tgt := 220) (by omega) (by decide) hx hb dX6_press_190 (by decide) (fun _ => ?_) (fun h => absurd h (by omega))
        by_cases hs0 : cntb (ovr (τ 7) (τ 22) (8 * i) (8 * d)) 8 = 0
        ·
          refine lv_iconst (v := 0) hx hb dX6_press_220 (by decide) ?_
          refine lv_istore (lv' := [(7, .int 0), (0, .ref o), (1, .int (nI (i))), (2, .int (nI (d))), (3, .int (nI (en))), (4, .int 1), (5, .int 3), (6, .int (cntb (ovr (τ 7) (τ 22) (8 * i) (8 * d)) (8)))]) hx hb dX6_press_221 hl9 (by decide) rfl (fun sl9 hl9 => ?_)
          have LP223_1 : ∀ (n223 k : Nat), k + n223 = 8 → ∀ (Hp9 : Heap) (lc9 : List Loc) (sl9 : Array Slot), zM D A s.heap (mW o ad T (upS (upS τ 7 (flA (τ 22) (8 * i) (8 * d) (τ 7) (k))) 20 (upd (τ 20) i (flL (τ 22) (8 * i) (8 * d) (τ 7) (τ 20 i) (k))))) Hp9 lc9 → lv_has sl9 9 [(0, .ref o), (1, .int (nI (i))), (2, .int (nI (d))), (3, .int (nI (en))), (4, .int 1), (5, .int 3), (6, .int (cntb (ovr (τ 7) (τ 22) (8 * i) (8 * d)) 8)), (7, .int (nI (k)))] → W p l e (zrm 3 73) s m args below meth c Hp9 lc9 0 0 Q (F0 m 223 sl9 []) := by
            intro n223
            induction n223 with
            | zero =>
              intro k hk9 Hp9 lc9 sl9 Mz9 hl9
              obtain rfl : 8 = k := by omega
              refine lv_iload hx hb dX6_press_223 (lv_at hl9 7 rfl) ?_
              refine lv_bipush (v := 8) hx hb dX6_press_225 (by decide) ?_
              refine zn_icmp_ge (a := 8) (b := 8) (tgt := 279) (by omega) (by decide) hx hb dX6_press_227 (by decide) (fun _ => ?_) (fun h => absurd h (by omega))
              refine lv_iload hx hb dX6_press_279 (lv_at hl9 6 rfl) ?_
              exact hret _ _ _ _ _ sl9 _ _ Mz9 (by have e9 : CB (ovr (FL (σ 22) (8 * i) (8 * d) (en * cn / 1000) (σ 7)) (σ 22) (8 * i) (8 * d)) = 0 := (by rw [CB_eq, ← h7t, ← h22t]; exact hs0); simp only [if_pos e9, FA_eq, FB_eq, h7t, h22t, h20t]; rw [hτ]; rfl) (by rw [CB_eq, ← h7t, ← h22t]) (rfl) (Nat.le_refl _) (Nat.le_refl _) dX6_press_281
            | succ n223 ih223 =>
              intro k hk9 Hp9 lc9 sl9 Mz9 hl9
              refine lv_iload hx hb dX6_press_223 (lv_at hl9 7 rfl) ?_
              refine lv_bipush (v := 8) hx hb dX6_press_225 (by decide) ?_
              refine zn_icmp_ge (a := k) (b := 8) (tgt := 279) (by omega) (by decide) hx hb dX6_press_227 (by decide) (fun h => absurd h (by omega)) (fun _ => ?_)
              refine lv_iload hx hb dX6_press_230 (lv_at hl9 6 rfl) ?_
              refine lv_if_ne (tgt := 279) hx hb dX6_press_232 (by decide) (fun h => absurd h (fun h => h hs0)) (fun _ => ?_)
              refine lv_aload_n hx hb dX6_press_235 rfl (lv_at hl9 0 rfl) ?_
              refine lv_iload_n hx hb dX6_press_236 rfl (lv_at hl9 1 rfl) ?_
              refine lv_iload_n hx hb dX6_press_237 rfl (lv_at hl9 2 rfl) ?_
              refine lv_iload hx hb dX6_press_238 (lv_at hl9 7 rfl) ?_
              refine z_callAi (As := [.int (nI (i)), .int (nI (d)), .int (nI (k))]) (rest := []) (rv := ovr (flA (τ 22) (8 * i) (8 * d) (τ 7) (k)) (τ 22) (8 * i) (8 * d) k) (wc' := mW o ad T (upS (upS τ 7 (flA (τ 22) (8 * i) (8 * d) (τ 7) (k))) 20 (upd (τ 20) i (flL (τ 22) (8 * i) (8 * d) (τ 7) (τ 20 i) (k))))) Z Mz9 (cm_over l D T o ad (upS (upS τ 7 (flA (τ 22) (8 * i) (8 * d) (τ 7) (k))) 20 (upd (τ 20) i (flL (τ 22) (8 * i) (8 * d) (τ 7) (τ 20 i) (k)))) (i) (d) (k) (by omega) (by omega) (by omega)) (cwV 3 hts gX6_press_X6_over rfl rfl rfl (by decide +kernel) ⟨by decide, by decide⟩) (va_recv Z.2.1 Mz9.1 (ci := 7) (q0 := 0) rfl rfl) rfl hl9.1 (Nat.le_of_ble_eq_true rfl) dX6_press_240 ⟨by decide, by decide⟩ rfl (fun Hp9 lc9 Mz9 => ?_)
              refine lv_istore (lv' := [(8, .int (ovr (flA (τ 22) (8 * i) (8 * d) (τ 7) (k)) (τ 22) (8 * i) (8 * d) k)), (0, .ref o), (1, .int (nI (i))), (2, .int (nI (d))), (3, .int (nI (en))), (4, .int 1), (5, .int 3), (6, .int (cntb (ovr (τ 7) (τ 22) (8 * i) (8 * d)) 8)), (7, .int (nI (k)))]) hx hb dX6_press_243 hl9 (by decide) rfl (fun sl9 hl9 => ?_)
              refine lv_aload_n hx hb dX6_press_245 rfl (lv_at hl9 1 rfl) ?_
              refine z_getf Z Mz9 hin6 0 rfl rfl 7 (by decide) L25 rfl (v := .ref (ad 7)) rfl dX6_press_246 ?_
              refine lv_bipush (v := 8) hx hb dX6_press_249 (by decide) ?_
              refine lv_iload_n hx hb dX6_press_251 rfl (lv_at hl9 2 rfl) ?_
              refine zn_imul (a := 8) (b := i) hx hb dX6_press_252 ?_
              refine lv_iload hx hb dX6_press_253 (lv_at hl9 8 rfl) ?_
              refine zn_iadd (a := 8 * i) (b := k) hx hb dX6_press_255 ?_
              refine lv_dup2_11 hx hb dX6_press_256 rfl rfl ?_
              refine z_iald Z Mz9 6 (h0 := ad 7) (n := 96) (f := flA (τ 22) (8 * i) (8 * d) (τ 7) (k)) rfl (j := (8 * i) + k) (by omega) (by decide) dX6_press_257 ?_
              refine lv_iload hx hb dX6_press_258 (lv_at hl9 0 rfl) ?_
              refine lv_isub hx hb dX6_press_260 ?_
              refine z_iast Z Mz9 6 (h0 := ad 7) (n := 96) (f := flA (τ 22) (8 * i) (8 * d) (τ 7) (k)) rfl (j := (8 * i) + k) (x := ((flA (τ 22) (8 * i) (8 * d) (τ 7) (k)) ((8 * i) + k)) - (ovr (flA (τ 22) (8 * i) (8 * d) (τ 7) (k)) (τ 22) (8 * i) (8 * d) k)) (by omega) (by decide) (ws' := mW o ad T (upS (upS τ 7 (upd (flA (τ 22) (8 * i) (8 * d) (τ 7) (k)) ((8 * i) + k) (((flA (τ 22) (8 * i) (8 * d) (τ 7) (k)) ((8 * i) + k)) - (ovr (flA (τ 22) (8 * i) (8 * d) (τ 7) (k)) (τ 22) (8 * i) (8 * d) k)))) 20 (upd (τ 20) i (flL (τ 22) (8 * i) (8 * d) (τ 7) (τ 20 i) (k))))) rfl dX6_press_261 (fun Hp9 lc9 Mz9 => ?_)
              refine lv_aload_n hx hb dX6_press_262 rfl (lv_at hl9 1 rfl) ?_
              refine z_getf Z Mz9 hin6 0 rfl rfl 20 (by decide) L65 rfl (v := .ref (ad 20)) rfl dX6_press_263 ?_
              refine lv_iload_n hx hb dX6_press_266 rfl (lv_at hl9 2 rfl) ?_
              refine lv_dup2_11 hx hb dX6_press_267 rfl rfl ?_
              refine z_iald Z Mz9 19 (h0 := ad 20) (n := 12) (f := upd (τ 20) i (flL (τ 22) (8 * i) (8 * d) (τ 7) (τ 20 i) (k))) rfl (j := i) (by omega) (by decide) dX6_press_268 ?_
              refine zn_top (y := flL (τ 22) (8 * i) (8 * d) (τ 7) (τ 20 i) (k)) (upd_same _ _ _) ?_
              refine lv_iload hx hb dX6_press_269 (lv_at hl9 0 rfl) ?_
              refine lv_iadd hx hb dX6_press_271 ?_
              refine z_iast Z Mz9 19 (h0 := ad 20) (n := 12) (f := upd (τ 20) i (flL (τ 22) (8 * i) (8 * d) (τ 7) (τ 20 i) (k))) rfl (j := i) (x := (flL (τ 22) (8 * i) (8 * d) (τ 7) (τ 20 i) (k)) + (ovr (flA (τ 22) (8 * i) (8 * d) (τ 7) (k)) (τ 22) (8 * i) (8 * d) k)) (by omega) (by decide) (ws' := mW o ad T (upS (upS τ 7 (upd (flA (τ 22) (8 * i) (8 * d) (τ 7) (k)) ((8 * i) + k) (((flA (τ 22) (8 * i) (8 * d) (τ 7) (k)) ((8 * i) + k)) - (ovr (flA (τ 22) (8 * i) (8 * d) (τ 7) (k)) (τ 22) (8 * i) (8 * d) k)))) 20 (upd (upd (τ 20) i (flL (τ 22) (8 * i) (8 * d) (τ 7) (τ 20 i) (k))) i ((flL (τ 22) (8 * i) (8 * d) (τ 7) (τ 20 i) (k)) + (ovr (flA (τ 22) (8 * i) (8 * d) (τ 7) (k)) (τ 22) (8 * i) (8 * d) k))))) rfl dX6_press_272 (fun Hp9 lc9 Mz9 => ?_)
              refine lv_iinc (v := nI (k + 1)) (lv' := [(7, .int (nI (k + 1))), (8, .int (ovr (flA (τ 22) (8 * i) (8 * d) (τ 7) (k)) (τ 22) (8 * i) (8 * d) k)), (0, .ref o), (1, .int (nI (i))), (2, .int (nI (d))), (3, .int (nI (en))), (4, .int 1), (5, .int 3), (6, .int (cntb (ovr (τ 7) (τ 22) (8 * i) (8 * d)) 8))]) hx hb dX6_press_273 hl9 (k := 8) rfl (nI_add (k) 1) (by decide) rfl (fun sl9 hl9 => ?_)
              refine lv_goto (tgt := 223) hx hb dX6_press_276 (by decide) ?_
              exact ih223 (k + 1) (by omega)  _ _ _ (zM_w (by simp only [flA, flL, upd_upd]) Mz9) (lv_sub hl9 [2, 3, 4, 5, 6, 7, 8, 0] rfl)
          exact LP223_1 (8 - 0) (0) (by omega)  _ _ _ (zM_w (by simp only [flA, flL, upd_id, upS_id]) Mz9) (lv_sub hl9 [1, 2, 3, 4, 5, 6, 7, 0] rfl)
        ·
          refine lv_iconst (v := 0) hx hb dX6_press_220 (by decide) ?_
          refine lv_istore (lv' := [(7, .int 0), (0, .ref o), (1, .int (nI (i))), (2, .int (nI (d))), (3, .int (nI (en))), (4, .int 1), (5, .int 3), (6, .int (cntb (ovr (τ 7) (τ 22) (8 * i) (8 * d)) (8)))]) hx hb dX6_press_221 hl9 (by decide) rfl (fun sl9 hl9 => ?_)
          refine lv_iload hx hb dX6_press_223 (lv_at hl9 0 rfl) ?_
          refine lv_bipush (v := 8) hx hb dX6_press_225 (by decide) ?_
          refine lv_icmp_ge (tgt := 279) hx hb dX6_press_227 (by decide) (fun h => absurd h (by decide)) (fun _ => ?_)
          refine lv_iload hx hb dX6_press_230 (lv_at hl9 7 rfl) ?_
          refine lv_if_ne (tgt := 279) hx hb dX6_press_232 (by decide) (fun _ => ?_) (fun h => absurd h (hs0))
          refine lv_iload hx hb dX6_press_279 (lv_at hl9 7 rfl) ?_
          exact hret _ _ _ _ _ sl9 _ _ Mz9 (by have e9 : ¬ CB (ovr (FL (σ 22) (8 * i) (8 * d) (en * cn / 1000) (σ 7)) (σ 22) (8 * i) (8 * d)) = 0 := (by rw [CB_eq, ← h7t, ← h22t]; exact hs0); simp only [if_neg e9, upd_id]; rw [hτ]; rfl) (by rw [CB_eq, ← h7t, ← h22t]) (rfl) (Nat.le_refl _) (Nat.le_refl _) dX6_press_281
      | succ n186 ih186 =>
        intro k hk9 Hp9 lc9 sl9 Mz9 hl9
        refine lv_iload hx hb dX6_press_186 (lv_at hl9 7 rfl) ?_
        refine lv_bipush (v := 8) hx hb dX6_press_188 (by decide) ?_
        refine zn_icmp_ge (a := k) (b := 8) (tgt := 220) (by omega) (by decide) hx hb dX6_press_190 (by decide) (fun h => absurd h (by omega)) (fun _ => ?_)
        refine lv_iload hx hb dX6_press_193 (lv_at hl9 6 rfl) ?_
        refine lv_aload_n hx hb dX6_press_195 rfl (lv_at hl9 0 rfl) ?_
        refine lv_iload_n hx hb dX6_press_196 rfl (lv_at hl9 1 rfl) ?_
        refine lv_iload_n hx hb dX6_press_197 rfl (lv_at hl9 2 rfl) ?_
        refine lv_iload hx hb dX6_press_198 (lv_at hl9 7 rfl) ?_
        refine z_callAi (As := [.int (nI (i)), .int (nI (d)), .int (nI (k))]) (rest := [.int (cntb (ovr (τ 7) (τ 22) (8 * i) (8 * d)) (k))]) (rv := ovr (τ 7) (τ 22) (8 * i) (8 * d) k) (wc' := mW o ad T τ) Z Mz9 (cm_over l D T o ad (τ) (i) (d) (k) (by omega) (by omega) (by omega)) (cwV 3 hts gX6_press_X6_over rfl rfl rfl (by decide +kernel) ⟨by decide, by decide⟩) (va_recv Z.2.1 Mz9.1 (ci := 7) (q0 := 0) rfl rfl) rfl hl9.1 (Nat.le_of_ble_eq_true rfl) dX6_press_200 ⟨by decide, by decide⟩ rfl (fun Hp9 lc9 Mz9 => ?_)
        refine lv_if_ge (tgt := 210) hx hb dX6_press_203 (by decide) (fun c_2 => ?_) (fun c_2 => ?_)
        ·
          refine lv_iconst (v := 0) hx hb dX6_press_210 (by decide) ?_
          refine lv_iadd hx hb dX6_press_211 ?_
          refine lv_istore (lv' := [(6, .int ((cntb (ovr (τ 7) (τ 22) (8 * i) (8 * d)) (k)) + 0)), (0, .ref o), (1, .int (nI (i))), (2, .int (nI (d))), (3, .int (nI (en))), (4, .int 1), (5, .int 3), (7, .int (nI (k)))]) hx hb dX6_press_212 hl9 (by decide) rfl (fun sl9 hl9 => ?_)
          refine lv_iinc (v := nI (k + 1)) (lv' := [(7, .int (nI (k + 1))), (6, .int ((cntb (ovr (τ 7) (τ 22) (8 * i) (8 * d)) (k)) + 0)), (0, .ref o), (1, .int (nI (i))), (2, .int (nI (d))), (3, .int (nI (en))), (4, .int 1), (5, .int 3)]) hx hb dX6_press_214 hl9 (k := 7) rfl (nI_add (k) 1) (by decide) rfl (fun sl9 hl9 => ?_)
          refine lv_goto (tgt := 186) hx hb dX6_press_217 (by decide) ?_
          exact ih186 (k + 1) (by omega)  _ _ _ Mz9 (lv_w (show ([(0, .ref o), (1, .int (nI (i))), (2, .int (nI (d))), (3, .int (nI (en))), (4, .int 1), (5, .int 3), (6, .int ((cntb (ovr (τ 7) (τ 22) (8 * i) (8 * d)) (k)) + 0)), (7, .int (nI (k + 1)))] : List (Nat × Value)) = [(0, .ref o), (1, .int (nI (i))), (2, .int (nI (d))), (3, .int (nI (en))), (4, .int 1), (5, .int 3), (6, .int (cntb (ovr (τ 7) (τ 22) (8 * i) (8 * d)) (k + 1))), (7, .int (nI (k + 1)))] from by simp only [cntb, add_0, if_neg (Int32.not_lt.mpr c_2)]) (lv_sub hl9 [2, 3, 4, 5, 6, 7, 1, 0] rfl))
        ·
          refine lv_iconst (v := 1) hx hb dX6_press_206 (by decide) ?_
          refine lv_goto (tgt := 211) hx hb dX6_press_207 (by decide) ?_
          refine lv_iadd hx hb dX6_press_211 ?_
          refine lv_istore (lv' := [(6, .int ((cntb (ovr (τ 7) (τ 22) (8 * i) (8 * d)) (k)) + 1)), (0, .ref o), (1, .int (nI (i))), (2, .int (nI (d))), (3, .int (nI (en))), (4, .int 1), (5, .int 3), (7, .int (nI (k)))]) hx hb dX6_press_212 hl9 (by decide) rfl (fun sl9 hl9 => ?_)
          refine lv_iinc (v := nI (k + 1)) (lv' := [(7, .int (nI (k + 1))), (6, .int ((cntb (ovr (τ 7) (τ 22) (8 * i) (8 * d)) (k)) + 1)), (0, .ref o), (1, .int (nI (i))), (2, .int (nI (d))), (3, .int (nI (en))), (4, .int 1), (5, .int 3)]) hx hb dX6_press_214 hl9 (k := 7) rfl (nI_add (k) 1) (by decide) rfl (fun sl9 hl9 => ?_)
          refine lv_goto (tgt := 186) hx hb dX6_press_217 (by decide) ?_
          exact ih186 (k + 1) (by omega)  _ _ _ Mz9 (lv_w (show ([(0, .ref o), (1, .int (nI (i))), (2, .int (nI (d))), (3, .int (nI (en))), (4, .int 1), (5, .int 3), (6, .int ((cntb (ovr (τ 7) (τ 22) (8 * i) (8 * d)) (k)) + 1)), (7, .int (nI (k + 1)))] : List (Nat × Value)) = [(0, .ref o), (1, .int (nI (i))), (2, .int (nI (d))), (3, .int (nI (en))), (4, .int 1), (5, .int 3), (6, .int (cntb (ovr (τ 7) (τ 22) (8 * i) (8 * d)) (k + 1))), (7, .int (nI (k + 1)))] from by simp only [cntb, add_0, if_pos (Int32.not_le.mp c_2)]) (lv_sub hl9 [2, 3, 4, 5, 6, 7, 1, 0] rfl))
    exact LP186_1 (8 - 0) (0) (by omega)  _ _ _ Mz9 (lv_sub hl9 [4, 5, 6, 7, 3, 2, 1, 0] rfl)
  ·
    refine lv_iconst (v := 0) hx hb dX6_press_143 (by decide) ?_
    refine lv_goto (tgt := 156) hx hb dX6_press_144 (by decide) ?_
    refine z_iast Z Mz9 21 (h0 := ad 23) (n := 4) (f := σ 23) rfl (j := d) (x := 0) (by omega) (by decide) (ws' := mW o ad T (upS (upS σ 23 (upd (σ 23) d 0)) 31 (fun _ => 0))) rfl dX6_press_156 (fun Hp9 lc9 Mz9 => ?_)
    have Mz9 : zM D A s.heap (mW o ad T (upS (upS σ 23 (upd (σ 23) d (lifv (σ 23 d) 3))) 31 (fun _ => 0))) _ _ := zM_w (by simp only [lifv, if_pos (Int32.not_le.mp c_1)]) Mz9
    refine lv_aload_n hx hb dX6_press_157 rfl (lv_at hl9 2 rfl) ?_
    refine lv_iload_n hx hb dX6_press_158 rfl (lv_at hl9 3 rfl) ?_
    refine lv_iload_n hx hb dX6_press_159 rfl (lv_at hl9 4 rfl) ?_
    refine lv_iload_n hx hb dX6_press_160 rfl (lv_at hl9 5 rfl) ?_
    refine lv_aload_n hx hb dX6_press_161 rfl (lv_at hl9 2 rfl) ?_
    refine z_getf Z Mz9 hin6 0 rfl rfl 10 (by decide) L34 rfl (v := .ref (ad 10)) rfl dX6_press_162 ?_
    refine lv_iload_n hx hb dX6_press_165 rfl (lv_at hl9 3 rfl) ?_
    refine z_iald Z Mz9 9 (h0 := ad 10) (n := 12) (f := σ 10) rfl (j := i) (by omega) (by decide) dX6_press_166 ?_
    refine zn_top (y := nI (cn)) (h10) ?_
    refine zn_imul (a := en) (b := cn) hx hb dX6_press_167 ?_
    refine lv_sipush (v := 1000) hx hb dX6_press_168 (by decide) ?_
    refine zn_idiv (a := en * cn) (b := 1000) (by omega) (by decide) (by decide) hx hb dX6_press_171 ?_
    refine z_callAv (As := [.int (nI (i)), .int (nI (d)), .int (nI ((en * cn) / 1000))]) (rest := []) (wc' := mW o ad T (upS (upS (upS σ 7 (FL (σ 22) (8 * i) (8 * d) ((en * cn) / 1000) (σ 7))) 23 (upd (σ 23) d (lifv (σ 23 d) 3))) 31 (fun _ => 0))) Z Mz9 (cm_fills l D T o ad (upS (upS σ 23 (upd (σ 23) d (lifv (σ 23 d) 3))) 31 (fun _ => 0)) (i) (d) ((en * cn) / 1000) (by omega) (by omega) (by omega)) (cwV 3 hts gX6_press_X6_fills rfl rfl rfl (by decide +kernel) ⟨by decide, by decide⟩) (va_recv Z.2.1 Mz9.1 (ci := 7) (q0 := 0) rfl rfl) rfl hl9.1 (Nat.le_of_ble_eq_true rfl) dX6_press_172 ⟨by decide, by decide⟩ rfl (fun Hp9 lc9 Mz9 => ?_)
    refine lv_aload_n hx hb dX6_press_175 rfl (lv_at hl9 2 rfl) ?_
    refine lv_iload_n hx hb dX6_press_176 rfl (lv_at hl9 3 rfl) ?_
    refine z_callAv (As := [.int (nI (i))]) (rest := []) (wc' := mW o ad T (upS (upS (upS (upS (upS σ 7 (FL (σ 22) (8 * i) (8 * d) ((en * cn) / 1000) (σ 7))) 9 (upd (σ 9) i (clS (sk)))) 10 (upd (σ 10) i (wrm (clS (sk)) (nI (cn))))) 23 (upd (σ 23) d (lifv (σ 23 d) 3))) 31 (fun _ => 0))) Z Mz9 (cm_cools l D T o ad (upS (upS (upS σ 7 (FL (σ 22) (8 * i) (8 * d) ((en * cn) / 1000) (σ 7))) 23 (upd (σ 23) d (lifv (σ 23 d) 3))) 31 (fun _ => 0)) (i) (sk) (nI (cn)) (by omega) (h9) (h10)) (cwV 1 hts gX6_press_X6_cools rfl rfl rfl (by decide +kernel) ⟨by decide, by decide⟩) (va_recv Z.2.1 Mz9.1 (ci := 7) (q0 := 0) rfl rfl) rfl hl9.1 (Nat.le_of_ble_eq_true rfl) dX6_press_177 ⟨by decide, by decide⟩ rfl (fun Hp9 lc9 Mz9 => ?_)
    obtain ⟨τ, hτ⟩ : ∃ z, z = upS (upS (upS (upS (upS σ 7 (FL (σ 22) (8 * i) (8 * d) ((en * cn) / 1000) (σ 7))) 9 (upd (σ 9) i (clS (sk)))) 10 (upd (σ 10) i (wrm (clS (sk)) (nI (cn))))) 23 (upd (σ 23) d (lifv (σ 23 d) 3))) 31 (fun _ => 0) := ⟨_, rfl⟩
    have Mz9 : zM D A s.heap (mW o ad T τ) _ _ := zM_w (by rw [hτ]) Mz9
    have h7t : τ 7 = (FL (σ 22) (8 * i) (8 * d) (en * cn / 1000) (σ 7)) := by rw [hτ]; rfl
    have h22t : τ 22 = σ 22 := by rw [hτ]; rfl
    have h20t : τ 20 = σ 20 := by rw [hτ]; rfl
    refine lv_iconst (v := 0) hx hb dX6_press_180 (by decide) ?_
    refine lv_istore (lv' := [(6, .int 0), (5, .int 3), (4, .int 1), (0, .ref o), (1, .int (nI (i))), (2, .int (nI (d))), (3, .int (nI (en)))]) hx hb dX6_press_181 hl9 (by decide) rfl (fun sl9 hl9 => ?_)
    refine lv_iconst (v := 0) hx hb dX6_press_183 (by decide) ?_
    refine lv_istore (lv' := [(7, .int 0), (6, .int 0), (5, .int 3), (4, .int 1), (0, .ref o), (1, .int (nI (i))), (2, .int (nI (d))), (3, .int (nI (en)))]) hx hb dX6_press_184 hl9 (by decide) rfl (fun sl9 hl9 => ?_)
    have LP186_2 : ∀ (n186 k : Nat), k + n186 = 8 → ∀ (Hp9 : Heap) (lc9 : List Loc) (sl9 : Array Slot), zM D A s.heap (mW o ad T τ) Hp9 lc9 → lv_has sl9 9 [(0, .ref o), (1, .int (nI (i))), (2, .int (nI (d))), (3, .int (nI (en))), (4, .int 1), (5, .int 3), (6, .int (cntb (ovr (τ 7) (τ 22) (8 * i) (8 * d)) (k))), (7, .int (nI (k)))] → W p l e (zrm 3 73) s m args below meth c Hp9 lc9 0 0 Q (F0 m 186 sl9 []) := by
      intro n186
      induction n186 with
      | zero =>
        intro k hk9 Hp9 lc9 sl9 Mz9 hl9
        obtain rfl : 8 = k := by omega
        refine lv_iload hx hb dX6_press_186 (lv_at hl9 7 rfl) ?_
        refine lv_bipush (v := 8) hx hb dX6_press_188 (by decide) ?_
        refine zn_icmp_ge (a := 8) (b := 8) (tgt := 220) (by omega) (by decide) hx hb dX6_press_190 (by decide) (fun _ => ?_) (fun h => absurd h (by omega))
        by_cases hs0 : cntb (ovr (τ 7) (τ 22) (8 * i) (8 * d)) 8 = 0
        ·
          refine lv_iconst (v := 0) hx hb dX6_press_220 (by decide) ?_
          refine lv_istore (lv' := [(7, .int 0), (0, .ref o), (1, .int (nI (i))), (2, .int (nI (d))), (3, .int (nI (en))), (4, .int 1), (5, .int 3), (6, .int (cntb (ovr (τ 7) (τ 22) (8 * i) (8 * d)) (8)))]) hx hb dX6_press_221 hl9 (by decide) rfl (fun sl9 hl9 => ?_)
          have LP223_2 : ∀ (n223 k : Nat), k + n223 = 8 → ∀ (Hp9 : Heap) (lc9 : List Loc) (sl9 : Array Slot), zM D A s.heap (mW o ad T (upS (upS τ 7 (flA (τ 22) (8 * i) (8 * d) (τ 7) (k))) 20 (upd (τ 20) i (flL (τ 22) (8 * i) (8 * d) (τ 7) (τ 20 i) (k))))) Hp9 lc9 → lv_has sl9 9 [(0, .ref o), (1, .int (nI (i))), (2, .int (nI (d))), (3, .int (nI (en))), (4, .int 1), (5, .int 3), (6, .int (cntb (ovr (τ 7) (τ 22) (8 * i) (8 * d)) 8)), (7, .int (nI (k)))] → W p l e (zrm 3 73) s m args below meth c Hp9 lc9 0 0 Q (F0 m 223 sl9 []) := by
            intro n223
            induction n223 with
            | zero =>
              intro k hk9 Hp9 lc9 sl9 Mz9 hl9
              obtain rfl : 8 = k := by omega
              refine lv_iload hx hb dX6_press_223 (lv_at hl9 7 rfl) ?_
              refine lv_bipush (v := 8) hx hb dX6_press_225 (by decide) ?_
              refine zn_icmp_ge (a := 8) (b := 8) (tgt := 279) (by omega) (by decide) hx hb dX6_press_227 (by decide) (fun _ => ?_) (fun h => absurd h (by omega))
              refine lv_iload hx hb dX6_press_279 (lv_at hl9 6 rfl) ?_
              exact hret _ _ _ _ _ sl9 _ _ Mz9 (by have e9 : CB (ovr (FL (σ 22) (8 * i) (8 * d) (en * cn / 1000) (σ 7)) (σ 22) (8 * i) (8 * d)) = 0 := (by rw [CB_eq, ← h7t, ← h22t]; exact hs0); simp only [if_pos e9, FA_eq, FB_eq, h7t, h22t, h20t]; rw [hτ]; rfl) (by rw [CB_eq, ← h7t, ← h22t]) (rfl) (Nat.le_refl _) (Nat.le_refl _) dX6_press_281
            | succ n223 ih223 =>
              intro k hk9 Hp9 lc9 sl9 Mz9 hl9
              refine lv_iload hx hb dX6_press_223 (lv_at hl9 7 rfl) ?_
              refine lv_bipush (v := 8) hx hb dX6_press_225 (by decide) ?_
              refine zn_icmp_ge (a := k) (b := 8) (tgt := 279) (by omega) (by decide) hx hb dX6_press_227 (by decide) (fun h => absurd h (by omega)) (fun _ => ?_)
              refine lv_iload hx hb dX6_press_230 (lv_at hl9 6 rfl) ?_
              refine lv_if_ne (tgt := 279) hx hb dX6_press_232 (by decide) (fun h => absurd h (fun h => h hs0)) (fun _ => ?_)
              refine lv_aload_n hx hb dX6_press_235 rfl (lv_at hl9 0 rfl) ?_
              refine lv_iload_n hx hb dX6_press_236 rfl (lv_at hl9 1 rfl) ?_
              refine lv_iload_n hx hb dX6_press_237 rfl (lv_at hl9 2 rfl) ?_
              refine lv_iload hx hb dX6_press_238 (lv_at hl9 7 rfl) ?_
              refine z_callAi (As := [.int (nI (i)), .int (nI (d)), .int (nI (k))]) (rest := []) (rv := ovr (flA (τ 22) (8 * i) (8 * d) (τ 7) (k)) (τ 22) (8 * i) (8 * d) k) (wc' := mW o ad T (upS (upS τ 7 (flA (τ 22) (8 * i) (8 * d) (τ 7) (k))) 20 (upd (τ 20) i (flL (τ 22) (8 * i) (8 * d) (τ 7) (τ 20 i) (k))))) Z Mz9 (cm_over l D T o ad (upS (upS τ 7 (flA (τ 22) (8 * i) (8 * d) (τ 7) (k))) 20 (upd (τ 20) i (flL (τ 22) (8 * i) (8 * d) (τ 7) (τ 20 i) (k)))) (i) (d) (k) (by omega) (by omega) (by omega)) (cwV 3 hts gX6_press_X6_over rfl rfl rfl (by decide +kernel) ⟨by decide, by decide⟩) (va_recv Z.2.1 Mz9.1 (ci := 7) (q0 := 0) rfl rfl) rfl hl9.1 (Nat.le_of_ble_eq_true rfl) dX6_press_240 ⟨by decide, by decide⟩ rfl (fun Hp9 lc9 Mz9 => ?_)
              refine lv_istore (lv' := [(8, .int (ovr (flA (τ 22) (8 * i) (8 * d) (τ 7) (k)) (τ 22) (8 * i) (8 * d) k)), (0, .ref o), (1, .int (nI (i))), (2, .int (nI (d))), (3, .int (nI (en))), (4, .int 1), (5, .int 3), (6, .int (cntb (ovr (τ 7) (τ 22) (8 * i) (8 * d)) 8)), (7, .int (nI (k)))]) hx hb dX6_press_243 hl9 (by decide) rfl (fun sl9 hl9 => ?_)
              refine lv_aload_n hx hb dX6_press_245 rfl (lv_at hl9 1 rfl) ?_
              refine z_getf Z Mz9 hin6 0 rfl rfl 7 (by decide) L25 rfl (v := .ref (ad 7)) rfl dX6_press_246 ?_
              refine lv_bipush (v := 8) hx hb dX6_press_249 (by decide) ?_
              refine lv_iload_n hx hb dX6_press_251 rfl (lv_at hl9 2 rfl) ?_
              refine zn_imul (a := 8) (b := i) hx hb dX6_press_252 ?_
              refine lv_iload hx hb dX6_press_253 (lv_at hl9 8 rfl) ?_
              refine zn_iadd (a := 8 * i) (b := k) hx hb dX6_press_255 ?_
              refine lv_dup2_11 hx hb dX6_press_256 rfl rfl ?_
              refine z_iald Z Mz9 6 (h0 := ad 7) (n := 96) (f := flA (τ 22) (8 * i) (8 * d) (τ 7) (k)) rfl (j := (8 * i) + k) (by omega) (by decide) dX6_press_257 ?_
              refine lv_iload hx hb dX6_press_258 (lv_at hl9 0 rfl) ?_
              refine lv_isub hx hb dX6_press_260 ?_
              refine z_iast Z Mz9 6 (h0 := ad 7) (n := 96) (f := flA (τ 22) (8 * i) (8 * d) (τ 7) (k)) rfl (j := (8 * i) + k) (x := ((flA (τ 22) (8 * i) (8 * d) (τ 7) (k)) ((8 * i) + k)) - (ovr (flA (τ 22) (8 * i) (8 * d) (τ 7) (k)) (τ 22) (8 * i) (8 * d) k)) (by omega) (by decide) (ws' := mW o ad T (upS (upS τ 7 (upd (flA (τ 22) (8 * i) (8 * d) (τ 7) (k)) ((8 * i) + k) (((flA (τ 22) (8 * i) (8 * d) (τ 7) (k)) ((8 * i) + k)) - (ovr (flA (τ 22) (8 * i) (8 * d) (τ 7) (k)) (τ 22) (8 * i) (8 * d) k)))) 20 (upd (τ 20) i (flL (τ 22) (8 * i) (8 * d) (τ 7) (τ 20 i) (k))))) rfl dX6_press_261 (fun Hp9 lc9 Mz9 => ?_)
              refine lv_aload_n hx hb dX6_press_262 rfl (lv_at hl9 1 rfl) ?_
              refine z_getf Z Mz9 hin6 0 rfl rfl 20 (by decide) L65 rfl (v := .ref (ad 20)) rfl dX6_press_263 ?_
              refine lv_iload_n hx hb dX6_press_266 rfl (lv_at hl9 2 rfl) ?_
              refine lv_dup2_11 hx hb dX6_press_267 rfl rfl ?_
              refine z_iald Z Mz9 19 (h0 := ad 20) (n := 12) (f := upd (τ 20) i (flL (τ 22) (8 * i) (8 * d) (τ 7) (τ 20 i) (k))) rfl (j := i) (by omega) (by decide) dX6_press_268 ?_
              refine zn_top (y := flL (τ 22) (8 * i) (8 * d) (τ 7) (τ 20 i) (k)) (upd_same _ _ _) ?_
              refine lv_iload hx hb dX6_press_269 (lv_at hl9 0 rfl) ?_
              refine lv_iadd hx hb dX6_press_271 ?_
              refine z_iast Z Mz9 19 (h0 := ad 20) (n := 12) (f := upd (τ 20) i (flL (τ 22) (8 * i) (8 * d) (τ 7) (τ 20 i) (k))) rfl (j := i) (x := (flL (τ 22) (8 * i) (8 * d) (τ 7) (τ 20 i) (k)) + (ovr (flA (τ 22) (8 * i) (8 * d) (τ 7) (k)) (τ 22) (8 * i) (8 * d) k)) (by omega) (by decide) (ws' := mW o ad T (upS (upS τ 7 (upd (flA (τ 22) (8 * i) (8 * d) (τ 7) (k)) ((8 * i) + k) (((flA (τ 22) (8 * i) (8 * d) (τ 7) (k)) ((8 * i) + k)) - (ovr (flA (τ 22) (8 * i) (8 * d) (τ 7) (k)) (τ 22) (8 * i) (8 * d) k)))) 20 (upd (upd (τ 20) i (flL (τ 22) (8 * i) (8 * d) (τ 7) (τ 20 i) (k))) i ((flL (τ 22) (8 * i) (8 * d) (τ 7) (τ 20 i) (k)) + (ovr (flA (τ 22) (8 * i) (8 * d) (τ 7) (k)) (τ 22) (8 * i) (8 * d) k))))) rfl dX6_press_272 (fun Hp9 lc9 Mz9 => ?_)
              refine lv_iinc (v := nI (k + 1)) (lv' := [(7, .int (nI (k + 1))), (8, .int (ovr (flA (τ 22) (8 * i) (8 * d) (τ 7) (k)) (τ 22) (8 * i) (8 * d) k)), (0, .ref o), (1, .int (nI (i))), (2, .int (nI (d))), (3, .int (nI (en))), (4, .int 1), (5, .int 3), (6, .int (cntb (ovr (τ 7) (τ 22) (8 * i) (8 * d)) 8))]) hx hb dX6_press_273 hl9 (k := 8) rfl (nI_add (k) 1) (by decide) rfl (fun sl9 hl9 => ?_)
              refine lv_goto (tgt := 223) hx hb dX6_press_276 (by decide) ?_
              exact ih223 (k + 1) (by omega)  _ _ _ (zM_w (by simp only [flA, flL, upd_upd]) Mz9) (lv_sub hl9 [2, 3, 4, 5, 6, 7, 8, 0] rfl)
          exact LP223_2 (8 - 0) (0) (by omega)  _ _ _ (zM_w (by simp only [flA, flL, upd_id, upS_id]) Mz9) (lv_sub hl9 [1, 2, 3, 4, 5, 6, 7, 0] rfl)
        ·
          refine lv_iconst (v := 0) hx hb dX6_press_220 (by decide) ?_
          refine lv_istore (lv' := [(7, .int 0), (0, .ref o), (1, .int (nI (i))), (2, .int (nI (d))), (3, .int (nI (en))), (4, .int 1), (5, .int 3), (6, .int (cntb (ovr (τ 7) (τ 22) (8 * i) (8 * d)) (8)))]) hx hb dX6_press_221 hl9 (by decide) rfl (fun sl9 hl9 => ?_)
          refine lv_iload hx hb dX6_press_223 (lv_at hl9 0 rfl) ?_
          refine lv_bipush (v := 8) hx hb dX6_press_225 (by decide) ?_
          refine lv_icmp_ge (tgt := 279) hx hb dX6_press_227 (by decide) (fun h => absurd h (by decide)) (fun _ => ?_)
          refine lv_iload hx hb dX6_press_230 (lv_at hl9 7 rfl) ?_
          refine lv_if_ne (tgt := 279) hx hb dX6_press_232 (by decide) (fun _ => ?_) (fun h => absurd h (hs0))
          refine lv_iload hx hb dX6_press_279 (lv_at hl9 7 rfl) ?_
          exact hret _ _ _ _ _ sl9 _ _ Mz9 (by have e9 : ¬ CB (ovr (FL (σ 22) (8 * i) (8 * d) (en * cn / 1000) (σ 7)) (σ 22) (8 * i) (8 * d)) = 0 := (by rw [CB_eq, ← h7t, ← h22t]; exact hs0); simp only [if_neg e9, upd_id]; rw [hτ]; rfl) (by rw [CB_eq, ← h7t, ← h22t]) (rfl) (Nat.le_refl _) (Nat.le_refl _) dX6_press_281
      | succ n186 ih186 =>
        intro k hk9 Hp9 lc9 sl9 Mz9 hl9
        refine lv_iload hx hb dX6_press_186 (lv_at hl9 7 rfl) ?_
        refine lv_bipush (v := 8) hx hb dX6_press_188 (by decide) ?_
        refine zn_icmp_ge (a := k) (b := 8) (tgt := 220) (by omega) (by decide) hx hb dX6_press_190 (by decide) (fun h => absurd h (by omega)) (fun _ => ?_)
        refine lv_iload hx hb dX6_press_193 (lv_at hl9 6 rfl) ?_
        refine lv_aload_n hx hb dX6_press_195 rfl (lv_at hl9 0 rfl) ?_
        refine lv_iload_n hx hb dX6_press_196 rfl (lv_at hl9 1 rfl) ?_
        refine lv_iload_n hx hb dX6_press_197 rfl (lv_at hl9 2 rfl) ?_
        refine lv_iload hx hb dX6_press_198 (lv_at hl9 7 rfl) ?_
        refine z_callAi (As := [.int (nI (i)), .int (nI (d)), .int (nI (k))]) (rest := [.int (cntb (ovr (τ 7) (τ 22) (8 * i) (8 * d)) (k))]) (rv := ovr (τ 7) (τ 22) (8 * i) (8 * d) k) (wc' := mW o ad T τ) Z Mz9 (cm_over l D T o ad (τ) (i) (d) (k) (by omega) (by omega) (by omega)) (cwV 3 hts gX6_press_X6_over rfl rfl rfl (by decide +kernel) ⟨by decide, by decide⟩) (va_recv Z.2.1 Mz9.1 (ci := 7) (q0 := 0) rfl rfl) rfl hl9.1 (Nat.le_of_ble_eq_true rfl) dX6_press_200 ⟨by decide, by decide⟩ rfl (fun Hp9 lc9 Mz9 => ?_)
        refine lv_if_ge (tgt := 210) hx hb dX6_press_203 (by decide) (fun c_3 => ?_) (fun c_3 => ?_)
        ·
          refine lv_iconst (v := 0) hx hb dX6_press_210 (by decide) ?_
          refine lv_iadd hx hb dX6_press_211 ?_
          refine lv_istore (lv' := [(6, .int ((cntb (ovr (τ 7) (τ 22) (8 * i) (8 * d)) (k)) + 0)), (0, .ref o), (1, .int (nI (i))), (2, .int (nI (d))), (3, .int (nI (en))), (4, .int 1), (5, .int 3), (7, .int (nI (k)))]) hx hb dX6_press_212 hl9 (by decide) rfl (fun sl9 hl9 => ?_)
          refine lv_iinc (v := nI (k + 1)) (lv' := [(7, .int (nI (k + 1))), (6, .int ((cntb (ovr (τ 7) (τ 22) (8 * i) (8 * d)) (k)) + 0)), (0, .ref o), (1, .int (nI (i))), (2, .int (nI (d))), (3, .int (nI (en))), (4, .int 1), (5, .int 3)]) hx hb dX6_press_214 hl9 (k := 7) rfl (nI_add (k) 1) (by decide) rfl (fun sl9 hl9 => ?_)
          refine lv_goto (tgt := 186) hx hb dX6_press_217 (by decide) ?_
          exact ih186 (k + 1) (by omega)  _ _ _ Mz9 (lv_w (show ([(0, .ref o), (1, .int (nI (i))), (2, .int (nI (d))), (3, .int (nI (en))), (4, .int 1), (5, .int 3), (6, .int ((cntb (ovr (τ 7) (τ 22) (8 * i) (8 * d)) (k)) + 0)), (7, .int (nI (k + 1)))] : List (Nat × Value)) = [(0, .ref o), (1, .int (nI (i))), (2, .int (nI (d))), (3, .int (nI (en))), (4, .int 1), (5, .int 3), (6, .int (cntb (ovr (τ 7) (τ 22) (8 * i) (8 * d)) (k + 1))), (7, .int (nI (k + 1)))] from by simp only [cntb, add_0, if_neg (Int32.not_lt.mpr c_3)]) (lv_sub hl9 [2, 3, 4, 5, 6, 7, 1, 0] rfl))
        ·
          refine lv_iconst (v := 1) hx hb dX6_press_206 (by decide) ?_
          refine lv_goto (tgt := 211) hx hb dX6_press_207 (by decide) ?_
          refine lv_iadd hx hb dX6_press_211 ?_
          refine lv_istore (lv' := [(6, .int ((cntb (ovr (τ 7) (τ 22) (8 * i) (8 * d)) (k)) + 1)), (0, .ref o), (1, .int (nI (i))), (2, .int (nI (d))), (3, .int (nI (en))), (4, .int 1), (5, .int 3), (7, .int (nI (k)))]) hx hb dX6_press_212 hl9 (by decide) rfl (fun sl9 hl9 => ?_)
          refine lv_iinc (v := nI (k + 1)) (lv' := [(7, .int (nI (k + 1))), (6, .int ((cntb (ovr (τ 7) (τ 22) (8 * i) (8 * d)) (k)) + 1)), (0, .ref o), (1, .int (nI (i))), (2, .int (nI (d))), (3, .int (nI (en))), (4, .int 1), (5, .int 3)]) hx hb dX6_press_214 hl9 (k := 7) rfl (nI_add (k) 1) (by decide) rfl (fun sl9 hl9 => ?_)
          refine lv_goto (tgt := 186) hx hb dX6_press_217 (by decide) ?_
          exact ih186 (k + 1) (by omega)  _ _ _ Mz9 (lv_w (show ([(0, .ref o), (1, .int (nI (i))), (2, .int (nI (d))), (3, .int (nI (en))), (4, .int 1), (5, .int 3), (6, .int ((cntb (ovr (τ 7) (τ 22) (8 * i) (8 * d)) (k)) + 1)), (7, .int (nI (k + 1)))] : List (Nat × Value)) = [(0, .ref o), (1, .int (nI (i))), (2, .int (nI (d))), (3, .int (nI (en))), (4, .int 1), (5, .int 3), (6, .int (cntb (ovr (τ 7) (τ 22) (8 * i) (8 * d)) (k + 1))), (7, .int (nI (k + 1)))] from by simp only [cntb, add_0, if_pos (Int32.not_le.mp c_3)]) (lv_sub hl9 [2, 3, 4, 5, 6, 7, 1, 0] rfl))
    exact LP186_2 (8 - 0) (0) (by omega)  _ _ _ Mz9 (lv_sub hl9 [4, 5, 6, 7, 3, 2, 1, 0] rfl)
set_option maxHeartbeats 4000000 in
set_option maxRecDepth 100000 in
theorem cm_press_ok1 (l : Launch) (D : va_G) (T : Nat → ClassId) (o : Nat) (ad : Nat → Nat) (σ : Nat → Nat → Int32) (i d en cn : Nat) (hi : i < 12) (hd : d < 4) (h1 : bin (nI i) 0 (σ 5 0 - 1) = 1) (h2 : bin (nI d) 0 (σ 21 0 - 1) = 1) (h3 : bin (nI en) 1 50 = 1) (h14 : σ 14 i = 0) (h23 : 0 < σ 23 d) (h10 : σ 10 i = nI cn) (hcn : 700 ≤ cn) (hc9 : 900 ≤ cn) (hen : en ≤ 50) (hcm : cn ≤ 1300) (hec : en * cn < 2 ^ 31) (sk : Int32) (h9 : σ 9 i = sk) : ZI l yX6_press wsX6_press (zrm 3 73) D T (mW o ad T σ) (mW o ad T (upS (upS (upS (upS (upS (upS σ 7 (if CB (ovr (FL (σ 22) (8 * i) (8 * d) (en * cn / 1000) (σ 7)) (σ 22) (8 * i) (8 * d)) = 0 then FA (σ 22) (8 * i) (8 * d) (FL (σ 22) (8 * i) (8 * d) (en * cn / 1000) (σ 7)) else (FL (σ 22) (8 * i) (8 * d) (en * cn / 1000) (σ 7)))) 9 (upd (σ 9) i (clS sk))) 10 (upd (σ 10) i (wrm (clS sk) (nI cn)))) 20 (upd (σ 20) i (if CB (ovr (FL (σ 22) (8 * i) (8 * d) (en * cn / 1000) (σ 7)) (σ 22) (8 * i) (8 * d)) = 0 then FB (σ 22) (8 * i) (8 * d) (FL (σ 22) (8 * i) (8 * d) (en * cn / 1000) (σ 7)) (σ 20 i) else σ 20 i))) 23 (upd (σ 23) d (lifv (σ 23 d) 1))) 31 (fun _ => 0))) [.ref o, .int (nI (i)), .int (nI (d)), .int (nI (en))] (CB (ovr (FL (σ 22) (8 * i) (8 * d) (en * cn / 1000) (σ 7)) (σ 22) (8 * i) (8 * d))) 0 0 := by
  refine z_inI (cc := cX6_press) (maxL := 9) (rt := .int) (by decide +kernel) rfl (Nat.le_of_ble_eq_true rfl) ?_
  intro p e s m args below meth c sl9 A Q Z hnm Mz9 hl9 hret
  have Z : zC p s m args c cX6_press 9 RX6 wsX6_press D T A := Z
  have hx := Z.1.1
  have hb := Z.1.2.1
  have hts := Z.1.2.2.2.2
  have hin6 : ∀ w ∈ wsX60, w ∈ wsX6_press := fun w h => List.mem_cons_of_mem _ (List.mem_append_right _ h)
  have hH0 : s.heap = s.heap := rfl
  have L46 := hts (.fieldLink RX6 46 "AnvilHouseModel" "hasCrack" "[Z") (by decide +kernel)
  have L71 := hts (.fieldLink RX6 71 "AnvilHouseModel" "life" "[I") (by decide +kernel)
  have L34 := hts (.fieldLink RX6 34 "AnvilHouseModel" "core" "[I") (by decide +kernel)
  have L25 := hts (.fieldLink RX6 25 "AnvilHouseModel" "areas" "[I") (by decide +kernel)
  have L65 := hts (.fieldLink RX6 65 "AnvilHouseModel" "lost" "[I") (by decide +kernel)
  have hl9 : lv_has sl9 9 [(0, .ref o), (1, .int (nI (i))), (2, .int (nI (d))), (3, .int (nI (en)))] := hl9
  refine lv_aload_n hx hb dX6_press_0 rfl (lv_at hl9 0 rfl) ?_
  refine lv_iload_n hx hb dX6_press_1 rfl (lv_at hl9 1 rfl) ?_
  refine z_callAi (As := [.int (nI (i))]) (rest := []) (rv := bin (nI (i)) 0 (σ 5 0 - 1)) (wc' := mW o ad T σ) Z Mz9 (cm_isBillet l D T o ad (σ) (nI (i))) (cwV 1 hts gX6_press_X6_isBillet rfl rfl rfl (by decide +kernel) ⟨by decide, by decide⟩) (va_recv Z.2.1 Mz9.1 (ci := 7) (q0 := 0) rfl rfl) rfl hl9.1 (Nat.le_of_ble_eq_true rfl) dX6_press_2 ⟨by decide, by decide⟩ rfl (fun Hp9 lc9 Mz9 => ?_)
  refine zn_top (y := 1) (h1) ?_
  refine lv_if_eq (tgt := 20) hx hb dX6_press_5 (by decide) (fun h => absurd h (by decide)) (fun _ => ?_)
  refine lv_aload_n hx hb dX6_press_8 rfl (lv_at hl9 0 rfl) ?_
  refine lv_iload_n hx hb dX6_press_9 rfl (lv_at hl9 2 rfl) ?_
  refine z_callAi (As := [.int (nI (d))]) (rest := []) (rv := bin (nI (d)) 0 (σ 21 0 - 1)) (wc' := mW o ad T σ) Z Mz9 (cm_isDie l D T o ad (σ) (nI (d))) (cwV 1 hts gX6_press_X6_isDie rfl rfl rfl (by decide +kernel) ⟨by decide, by decide⟩) (va_recv Z.2.1 Mz9.1 (ci := 7) (q0 := 0) rfl rfl) rfl hl9.1 (Nat.le_of_ble_eq_true rfl) dX6_press_10 ⟨by decide, by decide⟩ rfl (fun Hp9 lc9 Mz9 => ?_)
  refine zn_top (y := 1) (h2) ?_
  refine lv_if_eq (tgt := 20) hx hb dX6_press_13 (by decide) (fun h => absurd h (by decide)) (fun _ => ?_)
  refine lv_iconst (v := 1) hx hb dX6_press_16 (by decide) ?_
  refine lv_goto (tgt := 21) hx hb dX6_press_17 (by decide) ?_
  refine lv_istore (lv' := [(4, .int 1), (0, .ref o), (1, .int (nI (i))), (2, .int (nI (d))), (3, .int (nI (en)))]) hx hb dX6_press_21 hl9 (by decide) rfl (fun sl9 hl9 => ?_)
  refine lv_aload_n hx hb dX6_press_23 rfl (lv_at hl9 1 rfl) ?_
  refine lv_iload hx hb dX6_press_24 (lv_at hl9 0 rfl) ?_
  refine lv_iload_n hx hb dX6_press_26 rfl (lv_at hl9 4 rfl) ?_
  refine lv_iconst (v := 1) hx hb dX6_press_27 (by decide) ?_
  refine lv_bipush (v := 50) hx hb dX6_press_28 (by decide) ?_
  refine z_callSi (As := [.int (nI (en)), .int 1, .int 50]) (rest := [.int 1, .ref o]) Z.1 (cm_in l (nI (en)) (1) (50)) (va_cwS 3 hts gX6_press_X6_in rfl rfl rfl (by decide +kernel) ⟨by decide, by decide⟩) rfl hl9.1 (Nat.le_of_ble_eq_true rfl) dX6_press_30 ⟨by decide, by decide⟩ rfl ?_
  refine zn_top (y := 1) (h3) ?_
  refine lv_iload hx hb dX6_press_33 (lv_at hl9 0 rfl) ?_
  refine lv_if_eq (tgt := 78) hx hb dX6_press_35 (by decide) (fun h => absurd h (by decide)) (fun _ => ?_)
  refine lv_aload_n hx hb dX6_press_38 rfl (lv_at hl9 1 rfl) ?_
  refine z_getf Z Mz9 hin6 0 rfl rfl 14 (by decide) L46 rfl (v := .ref (ad 14)) rfl dX6_press_39 ?_
  refine lv_iload hx hb dX6_press_42 (lv_at hl9 0 rfl) ?_
  refine lv_if_eq (tgt := 51) hx hb dX6_press_44 (by decide) (fun h => absurd h (by decide)) (fun _ => ?_)
  refine lv_iload_n hx hb dX6_press_47 rfl (lv_at hl9 2 rfl) ?_
  refine lv_goto (tgt := 52) hx hb dX6_press_48 (by decide) ?_
  refine z_zald Z Mz9 13 (h0 := ad 14) (n := 12) (f := σ 14) rfl (j := i) (by omega) (by decide) dX6_press_52 ?_
  refine zn_top (y := 0) (h14) ?_
  refine lv_if_ne (tgt := 78) hx hb dX6_press_53 (by decide) (fun h => absurd h (by decide)) (fun _ => ?_)
  refine lv_aload_n hx hb dX6_press_56 rfl (lv_at hl9 1 rfl) ?_
  refine z_getf Z Mz9 hin6 0 rfl rfl 23 (by decide) L71 rfl (v := .ref (ad 23)) rfl dX6_press_57 ?_
  refine lv_iload hx hb dX6_press_60 (lv_at hl9 0 rfl) ?_
  refine lv_if_eq (tgt := 69) hx hb dX6_press_62 (by decide) (fun h => absurd h (by decide)) (fun _ => ?_)
  refine lv_iload_n hx hb dX6_press_65 rfl (lv_at hl9 3 rfl) ?_
  refine lv_goto (tgt := 70) hx hb dX6_press_66 (by decide) ?_
  refine z_iald Z Mz9 21 (h0 := ad 23) (n := 4) (f := σ 23) rfl (j := d) (by omega) (by decide) dX6_press_70 ?_
  refine lv_if_le (tgt := 78) hx hb dX6_press_71 (by decide) (fun h => absurd h (Int32.not_le.mpr h23)) (fun _ => ?_)
  refine lv_iconst (v := 1) hx hb dX6_press_74 (by decide) ?_
  refine lv_goto (tgt := 79) hx hb dX6_press_75 (by decide) ?_
  refine z_callAi (As := [.int 1, .int 1, .int 1]) (rest := []) (rv := if gth (1) (1) (1) = 0 then 1 else 0) (wc' := mW o ad T (upS σ 31 (fun _ => 0))) Z Mz9 (cm_goes l D T o ad (σ) (1) (1) (1)) (cwV 3 hts gX6_press_X6_goes rfl rfl rfl (by decide +kernel) ⟨by decide, by decide⟩) (va_recv Z.2.1 Mz9.1 (ci := 7) (q0 := 0) rfl rfl) rfl hl9.1 (Nat.le_of_ble_eq_true rfl) dX6_press_79 ⟨by decide, by decide⟩ rfl (fun Hp9 lc9 Mz9 => ?_)
  refine zn_top (y := 1) (by decide) ?_
  refine lv_if_ne (tgt := 87) hx hb dX6_press_82 (by decide) (fun _ => ?_) (fun h => absurd h (by decide))
  refine lv_aload_n hx hb dX6_press_87 rfl (lv_at hl9 1 rfl) ?_
  refine z_getf Z Mz9 hin6 0 rfl rfl 10 (by decide) L34 rfl (v := .ref (ad 10)) rfl dX6_press_88 ?_
  refine lv_iload_n hx hb dX6_press_91 rfl (lv_at hl9 2 rfl) ?_
  refine z_iald Z Mz9 9 (h0 := ad 10) (n := 12) (f := σ 10) rfl (j := i) (by omega) (by decide) dX6_press_92 ?_
  refine zn_top (y := nI (cn)) (h10) ?_
  refine lv_sipush (v := 700) hx hb dX6_press_93 (by decide) ?_
  refine zn_icmp_ge (a := cn) (b := 700) (tgt := 108) (by omega) (by decide) hx hb dX6_press_96 (by decide) (fun _ => ?_) (fun h => absurd h (by omega))
  refine lv_aload_n hx hb dX6_press_108 rfl (lv_at hl9 1 rfl) ?_
  refine z_getf Z Mz9 hin6 0 rfl rfl 10 (by decide) L34 rfl (v := .ref (ad 10)) rfl dX6_press_109 ?_
  refine lv_iload_n hx hb dX6_press_112 rfl (lv_at hl9 2 rfl) ?_
  refine z_iald Z Mz9 9 (h0 := ad 10) (n := 12) (f := σ 10) rfl (j := i) (by omega) (by decide) dX6_press_113 ?_
  refine zn_top (y := nI (cn)) (h10) ?_
  refine lv_sipush (v := 900) hx hb dX6_press_114 (by decide) ?_
  refine zn_icmp_ge (a := cn) (b := 900) (tgt := 124) (by omega) (by decide) hx hb dX6_press_117 (by decide) (fun _ => ?_) (fun h => absurd h (by omega))
  refine lv_iconst (v := 1) hx hb dX6_press_124 (by decide) ?_
  refine lv_istore (lv' := [(5, .int 1), (4, .int 1), (0, .ref o), (1, .int (nI (i))), (2, .int (nI (d))), (3, .int (nI (en)))]) hx hb dX6_press_125 hl9 (by decide) rfl (fun sl9 hl9 => ?_)
  refine lv_aload_n hx hb dX6_press_127 rfl (lv_at hl9 2 rfl) ?_
  refine z_getf Z Mz9 hin6 0 rfl rfl 23 (by decide) L71 rfl (v := .ref (ad 23)) rfl dX6_press_128 ?_
  refine lv_iload_n hx hb dX6_press_131 rfl (lv_at hl9 4 rfl) ?_
  refine lv_aload_n hx hb dX6_press_132 rfl (lv_at hl9 2 rfl) ?_
  refine z_getf Z Mz9 hin6 0 rfl rfl 23 (by decide) L71 rfl (v := .ref (ad 23)) rfl dX6_press_133 ?_
  refine lv_iload_n hx hb dX6_press_136 rfl (lv_at hl9 4 rfl) ?_
  refine z_iald Z Mz9 21 (h0 := ad 23) (n := 4) (f := σ 23) rfl (j := d) (by omega) (by decide) dX6_press_137 ?_
  refine lv_iload hx hb dX6_press_138 (lv_at hl9 0 rfl) ?_
  refine lv_icmp_ge (tgt := 147) hx hb dX6_press_140 (by decide) (fun c_1 => ?_) (fun c_1 => ?_)
  ·
    refine lv_aload_n hx hb dX6_press_147 rfl (lv_at hl9 2 rfl) ?_
    refine z_getf Z Mz9 hin6 0 rfl rfl 23 (by decide) L71 rfl (v := .ref (ad 23)) rfl dX6_press_148 ?_
    refine lv_iload_n hx hb dX6_press_151 rfl (lv_at hl9 4 rfl) ?_
    refine z_iald Z Mz9 21 (h0 := ad 23) (n := 4) (f := σ 23) rfl (j := d) (by omega) (by decide) dX6_press_152 ?_
    refine lv_iload hx hb dX6_press_153 (lv_at hl9 0 rfl) ?_
    refine lv_isub hx hb dX6_press_155 ?_
    refine z_iast Z Mz9 21 (h0 := ad 23) (n := 4) (f := σ 23) rfl (j := d) (x := ((σ 23) d) - 1) (by omega) (by decide) (ws' := mW o ad T (upS (upS σ 23 (upd (σ 23) d (((σ 23) d) - 1))) 31 (fun _ => 0))) rfl dX6_press_156 (fun Hp9 lc9 Mz9 => ?_)
    have Mz9 : zM D A s.heap (mW o ad T (upS (upS σ 23 (upd (σ 23) d (lifv (σ 23 d) 1))) 31 (fun _ => 0))) _ _ := zM_w (by simp only [lifv, if_neg (Int32.not_lt.mpr c_1)]) Mz9
    refine lv_aload_n hx hb dX6_press_157 rfl (lv_at hl9 2 rfl) ?_
    refine lv_iload_n hx hb dX6_press_158 rfl (lv_at hl9 3 rfl) ?_
    refine lv_iload_n hx hb dX6_press_159 rfl (lv_at hl9 4 rfl) ?_
    refine lv_iload_n hx hb dX6_press_160 rfl (lv_at hl9 5 rfl) ?_
    refine lv_aload_n hx hb dX6_press_161 rfl (lv_at hl9 2 rfl) ?_
    refine z_getf Z Mz9 hin6 0 rfl rfl 10 (by decide) L34 rfl (v := .ref (ad 10)) rfl dX6_press_162 ?_
    refine lv_iload_n hx hb dX6_press_165 rfl (lv_at hl9 3 rfl) ?_
    refine z_iald Z Mz9 9 (h0 := ad 10) (n := 12) (f := σ 10) rfl (j := i) (by omega) (by decide) dX6_press_166 ?_
    refine zn_top (y := nI (cn)) (h10) ?_
    refine zn_imul (a := en) (b := cn) hx hb dX6_press_167 ?_
    refine lv_sipush (v := 1000) hx hb dX6_press_168 (by decide) ?_
    refine zn_idiv (a := en * cn) (b := 1000) (by omega) (by decide) (by decide) hx hb dX6_press_171 ?_
    refine z_callAv (As := [.int (nI (i)), .int (nI (d)), .int (nI ((en * cn) / 1000))]) (rest := []) (wc' := mW o ad T (upS (upS (upS σ 7 (FL (σ 22) (8 * i) (8 * d) ((en * cn) / 1000) (σ 7))) 23 (upd (σ 23) d (lifv (σ 23 d) 1))) 31 (fun _ => 0))) Z Mz9 (cm_fills l D T o ad (upS (upS σ 23 (upd (σ 23) d (lifv (σ 23 d) 1))) 31 (fun _ => 0)) (i) (d) ((en * cn) / 1000) (by omega) (by omega) (by omega)) (cwV 3 hts gX6_press_X6_fills rfl rfl rfl (by decide +kernel) ⟨by decide, by decide⟩) (va_recv Z.2.1 Mz9.1 (ci := 7) (q0 := 0) rfl rfl) rfl hl9.1 (Nat.le_of_ble_eq_true rfl) dX6_press_172 ⟨by decide, by decide⟩ rfl (fun Hp9 lc9 Mz9 => ?_)
    refine lv_aload_n hx hb dX6_press_175 rfl (lv_at hl9 2 rfl) ?_
    refine lv_iload_n hx hb dX6_press_176 rfl (lv_at hl9 3 rfl) ?_
    refine z_callAv (As := [.int (nI (i))]) (rest := []) (wc' := mW o ad T (upS (upS (upS (upS (upS σ 7 (FL (σ 22) (8 * i) (8 * d) ((en * cn) / 1000) (σ 7))) 9 (upd (σ 9) i (clS (sk)))) 10 (upd (σ 10) i (wrm (clS (sk)) (nI (cn))))) 23 (upd (σ 23) d (lifv (σ 23 d) 1))) 31 (fun _ => 0))) Z Mz9 (cm_cools l D T o ad (upS (upS (upS σ 7 (FL (σ 22) (8 * i) (8 * d) ((en * cn) / 1000) (σ 7))) 23 (upd (σ 23) d (lifv (σ 23 d) 1))) 31 (fun _ => 0)) (i) (sk) (nI (cn)) (by omega) (h9) (h10)) (cwV 1 hts gX6_press_X6_cools rfl rfl rfl (by decide +kernel) ⟨by decide, by decide⟩) (va_recv Z.2.1 Mz9.1 (ci := 7) (q0 := 0) rfl rfl) rfl hl9.1 (Nat.le_of_ble_eq_true rfl) dX6_press_177 ⟨by decide, by decide⟩ rfl (fun Hp9 lc9 Mz9 => ?_)
    obtain ⟨τ, hτ⟩ : ∃ z, z = upS (upS (upS (upS (upS σ 7 (FL (σ 22) (8 * i) (8 * d) ((en * cn) / 1000) (σ 7))) 9 (upd (σ 9) i (clS (sk)))) 10 (upd (σ 10) i (wrm (clS (sk)) (nI (cn))))) 23 (upd (σ 23) d (lifv (σ 23 d) 1))) 31 (fun _ => 0) := ⟨_, rfl⟩
    have Mz9 : zM D A s.heap (mW o ad T τ) _ _ := zM_w (by rw [hτ]) Mz9
    have h7t : τ 7 = (FL (σ 22) (8 * i) (8 * d) (en * cn / 1000) (σ 7)) := by rw [hτ]; rfl
    have h22t : τ 22 = σ 22 := by rw [hτ]; rfl
    have h20t : τ 20 = σ 20 := by rw [hτ]; rfl
    refine lv_iconst (v := 0) hx hb dX6_press_180 (by decide) ?_
    refine lv_istore (lv' := [(6, .int 0), (5, .int 1), (4, .int 1), (0, .ref o), (1, .int (nI (i))), (2, .int (nI (d))), (3, .int (nI (en)))]) hx hb dX6_press_181 hl9 (by decide) rfl (fun sl9 hl9 => ?_)
    refine lv_iconst (v := 0) hx hb dX6_press_183 (by decide) ?_
    refine lv_istore (lv' := [(7, .int 0), (6, .int 0), (5, .int 1), (4, .int 1), (0, .ref o), (1, .int (nI (i))), (2, .int (nI (d))), (3, .int (nI (en)))]) hx hb dX6_press_184 hl9 (by decide) rfl (fun sl9 hl9 => ?_)
    have LP186_1 : ∀ (n186 k : Nat), k + n186 = 8 → ∀ (Hp9 : Heap) (lc9 : List Loc) (sl9 : Array Slot), zM D A s.heap (mW o ad T τ) Hp9 lc9 → lv_has sl9 9 [(0, .ref o), (1, .int (nI (i))), (2, .int (nI (d))), (3, .int (nI (en))), (4, .int 1), (5, .int 1), (6, .int (cntb (ovr (τ 7) (τ 22) (8 * i) (8 * d)) (k))), (7, .int (nI (k)))] → W p l e (zrm 3 73) s m args below meth c Hp9 lc9 0 0 Q (F0 m 186 sl9 []) := by
      intro n186
      induction n186 with
      | zero =>
        intro k hk9 Hp9 lc9 sl9 Mz9 hl9
        obtain rfl : 8 = k := by omega
        refine lv_iload hx hb dX6_press_186 (lv_at hl9 7 rfl) ?_
        refine lv_bipush (v := 8) hx hb dX6_press_188 (by decide) ?_
        refine zn_icmp_ge (a := 8) (b := 8) (tgt := 220) (by omega) (by decide) hx hb dX6_press_190 (by decide) (fun _ => ?_) (fun h => absurd h (by omega))
        by_cases hs0 : cntb (ovr (τ 7) (τ 22) (8 * i) (8 * d)) 8 = 0
        ·
          refine lv_iconst (v := 0) hx hb dX6_press_220 (by decide) ?_
          refine lv_istore (lv' := [(7, .int 0), (0, .ref o), (1, .int (nI (i))), (2, .int (nI (d))), (3, .int (nI (en))), (4, .int 1), (5, .int 1), (6, .int (cntb (ovr (τ 7) (τ 22) (8 * i) (8 * d)) (8)))]) hx hb dX6_press_221 hl9 (by decide) rfl (fun sl9 hl9 => ?_)
          have LP223_1 : ∀ (n223 k : Nat), k + n223 = 8 → ∀ (Hp9 : Heap) (lc9 : List Loc) (sl9 : Array Slot), zM D A s.heap (mW o ad T (upS (upS τ 7 (flA (τ 22) (8 * i) (8 * d) (τ 7) (k))) 20 (upd (τ 20) i (flL (τ 22) (8 * i) (8 * d) (τ 7) (τ 20 i) (k))))) Hp9 lc9 → lv_has sl9 9 [(0, .ref o), (1, .int (nI (i))), (2, .int (nI (d))), (3, .int (nI (en))), (4, .int 1), (5, .int 1), (6, .int (cntb (ovr (τ 7) (τ 22) (8 * i) (8 * d)) 8)), (7, .int (nI (k)))] → W p l e (zrm 3 73) s m args below meth c Hp9 lc9 0 0 Q (F0 m 223 sl9 []) := by
            intro n223
            induction n223 with
            | zero =>
              intro k hk9 Hp9 lc9 sl9 Mz9 hl9
              obtain rfl : 8 = k := by omega
              refine lv_iload hx hb dX6_press_223 (lv_at hl9 7 rfl) ?_
              refine lv_bipush (v := 8) hx hb dX6_press_225 (by decide) ?_
              refine zn_icmp_ge (a := 8) (b := 8) (tgt := 279) (by omega) (by decide) hx hb dX6_press_227 (by decide) (fun _ => ?_) (fun h => absurd h (by omega))
              refine lv_iload hx hb dX6_press_279 (lv_at hl9 6 rfl) ?_
              exact hret _ _ _ _ _ sl9 _ _ Mz9 (by have e9 : CB (ovr (FL (σ 22) (8 * i) (8 * d) (en * cn / 1000) (σ 7)) (σ 22) (8 * i) (8 * d)) = 0 := (by rw [CB_eq, ← h7t, ← h22t]; exact hs0); simp only [if_pos e9, FA_eq, FB_eq, h7t, h22t, h20t]; rw [hτ]; rfl) (by rw [CB_eq, ← h7t, ← h22t]) (rfl) (Nat.le_refl _) (Nat.le_refl _) dX6_press_281
            | succ n223 ih223 =>
              intro k hk9 Hp9 lc9 sl9 Mz9 hl9
              refine lv_iload hx hb dX6_press_223 (lv_at hl9 7 rfl) ?_
              refine lv_bipush (v := 8) hx hb dX6_press_225 (by decide) ?_
              refine zn_icmp_ge (a := k) (b := 8) (tgt := 279) (by omega) (by decide) hx hb dX6_press_227 (by decide) (fun h => absurd h (by omega)) (fun _ => ?_)
              refine lv_iload hx hb dX6_press_230 (lv_at hl9 6 rfl) ?_
              refine lv_if_ne (tgt := 279) hx hb dX6_press_232 (by decide) (fun h => absurd h (fun h => h hs0)) (fun _ => ?_)
              refine lv_aload_n hx hb dX6_press_235 rfl (lv_at hl9 0 rfl) ?_
              refine lv_iload_n hx hb dX6_press_236 rfl (lv_at hl9 1 rfl) ?_
              refine lv_iload_n hx hb dX6_press_237 rfl (lv_at hl9 2 rfl) ?_
              refine lv_iload hx hb dX6_press_238 (lv_at hl9 7 rfl) ?_
              refine z_callAi (As := [.int (nI (i)), .int (nI (d)), .int (nI (k))]) (rest := []) (rv := ovr (flA (τ 22) (8 * i) (8 * d) (τ 7) (k)) (τ 22) (8 * i) (8 * d) k) (wc' := mW o ad T (upS (upS τ 7 (flA (τ 22) (8 * i) (8 * d) (τ 7) (k))) 20 (upd (τ 20) i (flL (τ 22) (8 * i) (8 * d) (τ 7) (τ 20 i) (k))))) Z Mz9 (cm_over l D T o ad (upS (upS τ 7 (flA (τ 22) (8 * i) (8 * d) (τ 7) (k))) 20 (upd (τ 20) i (flL (τ 22) (8 * i) (8 * d) (τ 7) (τ 20 i) (k)))) (i) (d) (k) (by omega) (by omega) (by omega)) (cwV 3 hts gX6_press_X6_over rfl rfl rfl (by decide +kernel) ⟨by decide, by decide⟩) (va_recv Z.2.1 Mz9.1 (ci := 7) (q0 := 0) rfl rfl) rfl hl9.1 (Nat.le_of_ble_eq_true rfl) dX6_press_240 ⟨by decide, by decide⟩ rfl (fun Hp9 lc9 Mz9 => ?_)
              refine lv_istore (lv' := [(8, .int (ovr (flA (τ 22) (8 * i) (8 * d) (τ 7) (k)) (τ 22) (8 * i) (8 * d) k)), (0, .ref o), (1, .int (nI (i))), (2, .int (nI (d))), (3, .int (nI (en))), (4, .int 1), (5, .int 1), (6, .int (cntb (ovr (τ 7) (τ 22) (8 * i) (8 * d)) 8)), (7, .int (nI (k)))]) hx hb dX6_press_243 hl9 (by decide) rfl (fun sl9 hl9 => ?_)
              refine lv_aload_n hx hb dX6_press_245 rfl (lv_at hl9 1 rfl) ?_
              refine z_getf Z Mz9 hin6 0 rfl rfl 7 (by decide) L25 rfl (v := .ref (ad 7)) rfl dX6_press_246 ?_
              refine lv_bipush (v := 8) hx hb dX6_press_249 (by decide) ?_
              refine lv_iload_n hx hb dX6_press_251 rfl (lv_at hl9 2 rfl) ?_
              refine zn_imul (a := 8) (b := i) hx hb dX6_press_252 ?_
              refine lv_iload hx hb dX6_press_253 (lv_at hl9 8 rfl) ?_
              refine zn_iadd (a := 8 * i) (b := k) hx hb dX6_press_255 ?_
              refine lv_dup2_11 hx hb dX6_press_256 rfl rfl ?_
              refine z_iald Z Mz9 6 (h0 := ad 7) (n := 96) (f := flA (τ 22) (8 * i) (8 * d) (τ 7) (k)) rfl (j := (8 * i) + k) (by omega) (by decide) dX6_press_257 ?_
              refine lv_iload hx hb dX6_press_258 (lv_at hl9 0 rfl) ?_
              refine lv_isub hx hb dX6_press_260 ?_
              refine z_iast Z Mz9 6 (h0 := ad 7) (n := 96) (f := flA (τ 22) (8 * i) (8 * d) (τ 7) (k)) rfl (j := (8 * i) + k) (x := ((flA (τ 22) (8 * i) (8 * d) (τ 7) (k)) ((8 * i) + k)) - (ovr (flA (τ 22) (8 * i) (8 * d) (τ 7) (k)) (τ 22) (8 * i) (8 * d) k)) (by omega) (by decide) (ws' := mW o ad T (upS (upS τ 7 (upd (flA (τ 22) (8 * i) (8 * d) (τ 7) (k)) ((8 * i) + k) (((flA (τ 22) (8 * i) (8 * d) (τ 7) (k)) ((8 * i) + k)) - (ovr (flA (τ 22) (8 * i) (8 * d) (τ 7) (k)) (τ 22) (8 * i) (8 * d) k)))) 20 (upd (τ 20) i (flL (τ 22) (8 * i) (8 * d) (τ 7) (τ 20 i) (k))))) rfl dX6_press_261 (fun Hp9 lc9 Mz9 => ?_)
              refine lv_aload_n hx hb dX6_press_262 rfl (lv_at hl9 1 rfl) ?_
              refine z_getf Z Mz9 hin6 0 rfl rfl 20 (by decide) L65 rfl (v := .ref (ad 20)) rfl dX6_press_263 ?_
              refine lv_iload_n hx hb dX6_press_266 rfl (lv_at hl9 2 rfl) ?_
              refine lv_dup2_11 hx hb dX6_press_267 rfl rfl ?_
              refine z_iald Z Mz9 19 (h0 := ad 20) (n := 12) (f := upd (τ 20) i (flL (τ 22) (8 * i) (8 * d) (τ 7) (τ 20 i) (k))) rfl (j := i) (by omega) (by decide) dX6_press_268 ?_
              refine zn_top (y := flL (τ 22) (8 * i) (8 * d) (τ 7) (τ 20 i) (k)) (upd_same _ _ _) ?_
              refine lv_iload hx hb dX6_press_269 (lv_at hl9 0 rfl) ?_
              refine lv_iadd hx hb dX6_press_271 ?_
              refine z_iast Z Mz9 19 (h0 := ad 20) (n := 12) (f := upd (τ 20) i (flL (τ 22) (8 * i) (8 * d) (τ 7) (τ 20 i) (k))) rfl (j := i) (x := (flL (τ 22) (8 * i) (8 * d) (τ 7) (τ 20 i) (k)) + (ovr (flA (τ 22) (8 * i) (8 * d) (τ 7) (k)) (τ 22) (8 * i) (8 * d) k)) (by omega) (by decide) (ws' := mW o ad T (upS (upS τ 7 (upd (flA (τ 22) (8 * i) (8 * d) (τ 7) (k)) ((8 * i) + k) (((flA (τ 22) (8 * i) (8 * d) (τ 7) (k)) ((8 * i) + k)) - (ovr (flA (τ 22) (8 * i) (8 * d) (τ 7) (k)) (τ 22) (8 * i) (8 * d) k)))) 20 (upd (upd (τ 20) i (flL (τ 22) (8 * i) (8 * d) (τ 7) (τ 20 i) (k))) i ((flL (τ 22) (8 * i) (8 * d) (τ 7) (τ 20 i) (k)) + (ovr (flA (τ 22) (8 * i) (8 * d) (τ 7) (k)) (τ 22) (8 * i) (8 * d) k))))) rfl dX6_press_272 (fun Hp9 lc9 Mz9 => ?_)
              refine lv_iinc (v := nI (k + 1)) (lv' := [(7, .int (nI (k + 1))), (8, .int (ovr (flA (τ 22) (8 * i) (8 * d) (τ 7) (k)) (τ 22) (8 * i) (8 * d) k)), (0, .ref o), (1, .int (nI (i))), (2, .int (nI (d))), (3, .int (nI (en))), (4, .int 1), (5, .int 1), (6, .int (cntb (ovr (τ 7) (τ 22) (8 * i) (8 * d)) 8))]) hx hb dX6_press_273 hl9 (k := 8) rfl (nI_add (k) 1) (by decide) rfl (fun sl9 hl9 => ?_)
              refine lv_goto (tgt := 223) hx hb dX6_press_276 (by decide) ?_
              exact ih223 (k + 1) (by omega)  _ _ _ (zM_w (by simp only [flA, flL, upd_upd]) Mz9) (lv_sub hl9 [2, 3, 4, 5, 6, 7, 8, 0] rfl)
          exact LP223_1 (8 - 0) (0) (by omega)  _ _ _ (zM_w (by simp only [flA, flL, upd_id, upS_id]) Mz9) (lv_sub hl9 [1, 2, 3, 4, 5, 6, 7, 0] rfl)
        ·
          refine lv_iconst (v := 0) hx hb dX6_press_220 (by decide) ?_
          refine lv_istore (lv' := [(7, .int 0), (0, .ref o), (1, .int (nI (i))), (2, .int (nI (d))), (3, .int (nI (en))), (4, .int 1), (5, .int 1), (6, .int (cntb (ovr (τ 7) (τ 22) (8 * i) (8 * d)) (8)))]) hx hb dX6_press_221 hl9 (by decide) rfl (fun sl9 hl9 => ?_)
          refine lv_iload hx hb dX6_press_223 (lv_at hl9 0 rfl) ?_
          refine lv_bipush (v := 8) hx hb dX6_press_225 (by decide) ?_
          refine lv_icmp_ge (tgt := 279) hx hb dX6_press_227 (by decide) (fun h => absurd h (by decide)) (fun _ => ?_)
          refine lv_iload hx hb dX6_press_230 (lv_at hl9 7 rfl) ?_
          refine lv_if_ne (tgt := 279) hx hb dX6_press_232 (by decide) (fun _ => ?_) (fun h => absurd h (hs0))
          refine lv_iload hx hb dX6_press_279 (lv_at hl9 7 rfl) ?_
          exact hret _ _ _ _ _ sl9 _ _ Mz9 (by have e9 : ¬ CB (ovr (FL (σ 22) (8 * i) (8 * d) (en * cn / 1000) (σ 7)) (σ 22) (8 * i) (8 * d)) = 0 := (by rw [CB_eq, ← h7t, ← h22t]; exact hs0); simp only [if_neg e9, upd_id]; rw [hτ]; rfl) (by rw [CB_eq, ← h7t, ← h22t]) (rfl) (Nat.le_refl _) (Nat.le_refl _) dX6_press_281
      | succ n186 ih186 =>
        intro k hk9 Hp9 lc9 sl9 Mz9 hl9
        refine lv_iload hx hb dX6_press_186 (lv_at hl9 7 rfl) ?_
        refine lv_bipush (v := 8) hx hb dX6_press_188 (by decide) ?_
        refine zn_icmp_ge (a := k) (b := 8) (tgt := 220) (by omega) (by decide) hx hb dX6_press_190 (by decide) (fun h => absurd h (by omega)) (fun _ => ?_)
        refine lv_iload hx hb dX6_press_193 (lv_at hl9 6 rfl) ?_
        refine lv_aload_n hx hb dX6_press_195 rfl (lv_at hl9 0 rfl) ?_
        refine lv_iload_n hx hb dX6_press_196 rfl (lv_at hl9 1 rfl) ?_
        refine lv_iload_n hx hb dX6_press_197 rfl (lv_at hl9 2 rfl) ?_
        refine lv_iload hx hb dX6_press_198 (lv_at hl9 7 rfl) ?_
        refine z_callAi (As := [.int (nI (i)), .int (nI (d)), .int (nI (k))]) (rest := [.int (cntb (ovr (τ 7) (τ 22) (8 * i) (8 * d)) (k))]) (rv := ovr (τ 7) (τ 22) (8 * i) (8 * d) k) (wc' := mW o ad T τ) Z Mz9 (cm_over l D T o ad (τ) (i) (d) (k) (by omega) (by omega) (by omega)) (cwV 3 hts gX6_press_X6_over rfl rfl rfl (by decide +kernel) ⟨by decide, by decide⟩) (va_recv Z.2.1 Mz9.1 (ci := 7) (q0 := 0) rfl rfl) rfl hl9.1 (Nat.le_of_ble_eq_true rfl) dX6_press_200 ⟨by decide, by decide⟩ rfl (fun Hp9 lc9 Mz9 => ?_)
        refine lv_if_ge (tgt := 210) hx hb dX6_press_203 (by decide) (fun c_2 => ?_) (fun c_2 => ?_)
        ·
          refine lv_iconst (v := 0) hx hb dX6_press_210 (by decide) ?_
          refine lv_iadd hx hb dX6_press_211 ?_
          refine lv_istore (lv' := [(6, .int ((cntb (ovr (τ 7) (τ 22) (8 * i) (8 * d)) (k)) + 0)), (0, .ref o), (1, .int (nI (i))), (2, .int (nI (d))), (3, .int (nI (en))), (4, .int 1), (5, .int 1), (7, .int (nI (k)))]) hx hb dX6_press_212 hl9 (by decide) rfl (fun sl9 hl9 => ?_)
          refine lv_iinc (v := nI (k + 1)) (lv' := [(7, .int (nI (k + 1))), (6, .int ((cntb (ovr (τ 7) (τ 22) (8 * i) (8 * d)) (k)) + 0)), (0, .ref o), (1, .int (nI (i))), (2, .int (nI (d))), (3, .int (nI (en))), (4, .int 1), (5, .int 1)]) hx hb dX6_press_214 hl9 (k := 7) rfl (nI_add (k) 1) (by decide) rfl (fun sl9 hl9 => ?_)
          refine lv_goto (tgt := 186) hx hb dX6_press_217 (by decide) ?_
          exact ih186 (k + 1) (by omega)  _ _ _ Mz9 (lv_w (show ([(0, .ref o), (1, .int (nI (i))), (2, .int (nI (d))), (3, .int (nI (en))), (4, .int 1), (5, .int 1), (6, .int ((cntb (ovr (τ 7) (τ 22) (8 * i) (8 * d)) (k)) + 0)), (7, .int (nI (k + 1)))] : List (Nat × Value)) = [(0, .ref o), (1, .int (nI (i))), (2, .int (nI (d))), (3, .int (nI (en))), (4, .int 1), (5, .int 1), (6, .int (cntb (ovr (τ 7) (τ 22) (8 * i) (8 * d)) (k + 1))), (7, .int (nI (k + 1)))] from by simp only [cntb, add_0, if_neg (Int32.not_lt.mpr c_2)]) (lv_sub hl9 [2, 3, 4, 5, 6, 7, 1, 0] rfl))
        ·
          refine lv_iconst (v := 1) hx hb dX6_press_206 (by decide) ?_
          refine lv_goto (tgt := 211) hx hb dX6_press_207 (by decide) ?_
          refine lv_iadd hx hb dX6_press_211 ?_
          refine lv_istore (lv' := [(6, .int ((cntb (ovr (τ 7) (τ 22) (8 * i) (8 * d)) (k)) + 1)), (0, .ref o), (1, .int (nI (i))), (2, .int (nI (d))), (3, .int (nI (en))), (4, .int 1), (5, .int 1), (7, .int (nI (k)))]) hx hb dX6_press_212 hl9 (by decide) rfl (fun sl9 hl9 => ?_)
          refine lv_iinc (v := nI (k + 1)) (lv' := [(7, .int (nI (k + 1))), (6, .int ((cntb (ovr (τ 7) (τ 22) (8 * i) (8 * d)) (k)) + 1)), (0, .ref o), (1, .int (nI (i))), (2, .int (nI (d))), (3, .int (nI (en))), (4, .int 1), (5, .int 1)]) hx hb dX6_press_214 hl9 (k := 7) rfl (nI_add (k) 1) (by decide) rfl (fun sl9 hl9 => ?_)
          refine lv_goto (tgt := 186) hx hb dX6_press_217 (by decide) ?_
          exact ih186 (k + 1) (by omega)  _ _ _ Mz9 (lv_w (show ([(0, .ref o), (1, .int (nI (i))), (2, .int (nI (d))), (3, .int (nI (en))), (4, .int 1), (5, .int 1), (6, .int ((cntb (ovr (τ 7) (τ 22) (8 * i) (8 * d)) (k)) + 1)), (7, .int (nI (k + 1)))] : List (Nat × Value)) = [(0, .ref o), (1, .int (nI (i))), (2, .int (nI (d))), (3, .int (nI (en))), (4, .int 1), (5, .int 1), (6, .int (cntb (ovr (τ 7) (τ 22) (8 * i) (8 * d)) (k + 1))), (7, .int (nI (k + 1)))] from by simp only [cntb, add_0, if_pos (Int32.not_le.mp c_2)]) (lv_sub hl9 [2, 3, 4, 5, 6, 7, 1, 0] rfl))
    exact LP186_1 (8 - 0) (0) (by omega)  _ _ _ Mz9 (lv_sub hl9 [4, 5, 6, 7, 3, 2, 1, 0] rfl)
  ·
    refine lv_iconst (v := 0) hx hb dX6_press_143 (by decide) ?_
    refine lv_goto (tgt := 156) hx hb dX6_press_144 (by decide) ?_
    refine z_iast Z Mz9 21 (h0 := ad 23) (n := 4) (f := σ 23) rfl (j := d) (x := 0) (by omega) (by decide) (ws' := mW o ad T (upS (upS σ 23 (upd (σ 23) d 0)) 31 (fun _ => 0))) rfl dX6_press_156 (fun Hp9 lc9 Mz9 => ?_)
    have Mz9 : zM D A s.heap (mW o ad T (upS (upS σ 23 (upd (σ 23) d (lifv (σ 23 d) 1))) 31 (fun _ => 0))) _ _ := zM_w (by simp only [lifv, if_pos (Int32.not_le.mp c_1)]) Mz9
    refine lv_aload_n hx hb dX6_press_157 rfl (lv_at hl9 2 rfl) ?_
    refine lv_iload_n hx hb dX6_press_158 rfl (lv_at hl9 3 rfl) ?_
    refine lv_iload_n hx hb dX6_press_159 rfl (lv_at hl9 4 rfl) ?_
    refine lv_iload_n hx hb dX6_press_160 rfl (lv_at hl9 5 rfl) ?_
    refine lv_aload_n hx hb dX6_press_161 rfl (lv_at hl9 2 rfl) ?_
    refine z_getf Z Mz9 hin6 0 rfl rfl 10 (by decide) L34 rfl (v := .ref (ad 10)) rfl dX6_press_162 ?_
    refine lv_iload_n hx hb dX6_press_165 rfl (lv_at hl9 3 rfl) ?_
    refine z_iald Z Mz9 9 (h0 := ad 10) (n := 12) (f := σ 10) rfl (j := i) (by omega) (by decide) dX6_press_166 ?_
    refine zn_top (y := nI (cn)) (h10) ?_
    refine zn_imul (a := en) (b := cn) hx hb dX6_press_167 ?_
    refine lv_sipush (v := 1000) hx hb dX6_press_168 (by decide) ?_
    refine zn_idiv (a := en * cn) (b := 1000) (by omega) (by decide) (by decide) hx hb dX6_press_171 ?_
    refine z_callAv (As := [.int (nI (i)), .int (nI (d)), .int (nI ((en * cn) / 1000))]) (rest := []) (wc' := mW o ad T (upS (upS (upS σ 7 (FL (σ 22) (8 * i) (8 * d) ((en * cn) / 1000) (σ 7))) 23 (upd (σ 23) d (lifv (σ 23 d) 1))) 31 (fun _ => 0))) Z Mz9 (cm_fills l D T o ad (upS (upS σ 23 (upd (σ 23) d (lifv (σ 23 d) 1))) 31 (fun _ => 0)) (i) (d) ((en * cn) / 1000) (by omega) (by omega) (by omega)) (cwV 3 hts gX6_press_X6_fills rfl rfl rfl (by decide +kernel) ⟨by decide, by decide⟩) (va_recv Z.2.1 Mz9.1 (ci := 7) (q0 := 0) rfl rfl) rfl hl9.1 (Nat.le_of_ble_eq_true rfl) dX6_press_172 ⟨by decide, by decide⟩ rfl (fun Hp9 lc9 Mz9 => ?_)
    refine lv_aload_n hx hb dX6_press_175 rfl (lv_at hl9 2 rfl) ?_
    refine lv_iload_n hx hb dX6_press_176 rfl (lv_at hl9 3 rfl) ?_
    refine z_callAv (As := [.int (nI (i))]) (rest := []) (wc' := mW o ad T (upS (upS (upS (upS (upS σ 7 (FL (σ 22) (8 * i) (8 * d) ((en * cn) / 1000) (σ 7))) 9 (upd (σ 9) i (clS (sk)))) 10 (upd (σ 10) i (wrm (clS (sk)) (nI (cn))))) 23 (upd (σ 23) d (lifv (σ 23 d) 1))) 31 (fun _ => 0))) Z Mz9 (cm_cools l D T o ad (upS (upS (upS σ 7 (FL (σ 22) (8 * i) (8 * d) ((en * cn) / 1000) (σ 7))) 23 (upd (σ 23) d (lifv (σ 23 d) 1))) 31 (fun _ => 0)) (i) (sk) (nI (cn)) (by omega) (h9) (h10)) (cwV 1 hts gX6_press_X6_cools rfl rfl rfl (by decide +kernel) ⟨by decide, by decide⟩) (va_recv Z.2.1 Mz9.1 (ci := 7) (q0 := 0) rfl rfl) rfl hl9.1 (Nat.le_of_ble_eq_true rfl) dX6_press_177 ⟨by decide, by decide⟩ rfl (fun Hp9 lc9 Mz9 => ?_)
    obtain ⟨τ, hτ⟩ : ∃ z, z = upS (upS (upS (upS (upS σ 7 (FL (σ 22) (8 * i) (8 * d) ((en * cn) / 1000) (σ 7))) 9 (upd (σ 9) i (clS (sk)))) 10 (upd (σ 10) i (wrm (clS (sk)) (nI (cn))))) 23 (upd (σ 23) d (lifv (σ 23 d) 1))) 31 (fun _ => 0) := ⟨_, rfl⟩
    have Mz9 : zM D A s.heap (mW o ad T τ) _ _ := zM_w (by rw [hτ]) Mz9
    have h7t : τ 7 = (FL (σ 22) (8 * i) (8 * d) (en * cn / 1000) (σ 7)) := by rw [hτ]; rfl
    have h22t : τ 22 = σ 22 := by rw [hτ]; rfl
    have h20t : τ 20 = σ 20 := by rw [hτ]; rfl
    refine lv_iconst (v := 0) hx hb dX6_press_180 (by decide) ?_
    refine lv_istore (lv' := [(6, .int 0), (5, .int 1), (4, .int 1), (0, .ref o), (1, .int (nI (i))), (2, .int (nI (d))), (3, .int (nI (en)))]) hx hb dX6_press_181 hl9 (by decide) rfl (fun sl9 hl9 => ?_)
    refine lv_iconst (v := 0) hx hb dX6_press_183 (by decide) ?_
    refine lv_istore (lv' := [(7, .int 0), (6, .int 0), (5, .int 1), (4, .int 1), (0, .ref o), (1, .int (nI (i))), (2, .int (nI (d))), (3, .int (nI (en)))]) hx hb dX6_press_184 hl9 (by decide) rfl (fun sl9 hl9 => ?_)
    have LP186_2 : ∀ (n186 k : Nat), k + n186 = 8 → ∀ (Hp9 : Heap) (lc9 : List Loc) (sl9 : Array Slot), zM D A s.heap (mW o ad T τ) Hp9 lc9 → lv_has sl9 9 [(0, .ref o), (1, .int (nI (i))), (2, .int (nI (d))), (3, .int (nI (en))), (4, .int 1), (5, .int 1), (6, .int (cntb (ovr (τ 7) (τ 22) (8 * i) (8 * d)) (k))), (7, .int (nI (k)))] → W p l e (zrm 3 73) s m args below meth c Hp9 lc9 0 0 Q (F0 m 186 sl9 []) := by
      intro n186
      induction n186 with
      | zero =>
        intro k hk9 Hp9 lc9 sl9 Mz9 hl9
        obtain rfl : 8 = k := by omega
        refine lv_iload hx hb dX6_press_186 (lv_at hl9 7 rfl) ?_
        refine lv_bipush (v := 8) hx hb dX6_press_188 (by decide) ?_
        refine zn_icmp_ge (a := 8) (b := 8) (tgt := 220) (by omega) (by decide) hx hb dX6_press_190 (by decide) (fun _ => ?_) (fun h => absurd h (by omega))
        by_cases hs0 : cntb (ovr (τ 7) (τ 22) (8 * i) (8 * d)) 8 = 0
        ·
          refine lv_iconst (v := 0) hx hb dX6_press_220 (by decide) ?_
          refine lv_istore (lv' := [(7, .int 0), (0, .ref o), (1, .int (nI (i))), (2, .int (nI (d))), (3, .int (nI (en))), (4, .int 1), (5, .int 1), (6, .int (cntb (ovr (τ 7) (τ 22) (8 * i) (8 * d)) (8)))]) hx hb dX6_press_221 hl9 (by decide) rfl (fun sl9 hl9 => ?_)
          have LP223_2 : ∀ (n223 k : Nat), k + n223 = 8 → ∀ (Hp9 : Heap) (lc9 : List Loc) (sl9 : Array Slot), zM D A s.heap (mW o ad T (upS (upS τ 7 (flA (τ 22) (8 * i) (8 * d) (τ 7) (k))) 20 (upd (τ 20) i (flL (τ 22) (8 * i) (8 * d) (τ 7) (τ 20 i) (k))))) Hp9 lc9 → lv_has sl9 9 [(0, .ref o), (1, .int (nI (i))), (2, .int (nI (d))), (3, .int (nI (en))), (4, .int 1), (5, .int 1), (6, .int (cntb (ovr (τ 7) (τ 22) (8 * i) (8 * d)) 8)), (7, .int (nI (k)))] → W p l e (zrm 3 73) s m args below meth c Hp9 lc9 0 0 Q (F0 m 223 sl9 []) := by
            intro n223
            induction n223 with
            | zero =>
              intro k hk9 Hp9 lc9 sl9 Mz9 hl9
              obtain rfl : 8 = k := by omega
              refine lv_iload hx hb dX6_press_223 (lv_at hl9 7 rfl) ?_
              refine lv_bipush (v := 8) hx hb dX6_press_225 (by decide) ?_
              refine zn_icmp_ge (a := 8) (b := 8) (tgt := 279) (by omega) (by decide) hx hb dX6_press_227 (by decide) (fun _ => ?_) (fun h => absurd h (by omega))
              refine lv_iload hx hb dX6_press_279 (lv_at hl9 6 rfl) ?_
              exact hret _ _ _ _ _ sl9 _ _ Mz9 (by have e9 : CB (ovr (FL (σ 22) (8 * i) (8 * d) (en * cn / 1000) (σ 7)) (σ 22) (8 * i) (8 * d)) = 0 := (by rw [CB_eq, ← h7t, ← h22t]; exact hs0); simp only [if_pos e9, FA_eq, FB_eq, h7t, h22t, h20t]; rw [hτ]; rfl) (by rw [CB_eq, ← h7t, ← h22t]) (rfl) (Nat.le_refl _) (Nat.le_refl _) dX6_press_281
            | succ n223 ih223 =>
              intro k hk9 Hp9 lc9 sl9 Mz9 hl9
              refine lv_iload hx hb dX6_press_223 (lv_at hl9 7 rfl) ?_
              refine lv_bipush (v := 8) hx hb dX6_press_225 (by decide) ?_
              refine zn_icmp_ge (a := k) (b := 8) (tgt := 279) (by omega) (by decide) hx hb dX6_press_227 (by decide) (fun h => absurd h (by omega)) (fun _ => ?_)
              refine lv_iload hx hb dX6_press_230 (lv_at hl9 6 rfl) ?_
              refine lv_if_ne (tgt := 279) hx hb dX6_press_232 (by decide) (fun h => absurd h (fun h => h hs0)) (fun _ => ?_)
              refine lv_aload_n hx hb dX6_press_235 rfl (lv_at hl9 0 rfl) ?_
              refine lv_iload_n hx hb dX6_press_236 rfl (lv_at hl9 1 rfl) ?_
              refine lv_iload_n hx hb dX6_press_237 rfl (lv_at hl9 2 rfl) ?_
              refine lv_iload hx hb dX6_press_238 (lv_at hl9 7 rfl) ?_
              refine z_callAi (As := [.int (nI (i)), .int (nI (d)), .int (nI (k))]) (rest := []) (rv := ovr (flA (τ 22) (8 * i) (8 * d) (τ 7) (k)) (τ 22) (8 * i) (8 * d) k) (wc' := mW o ad T (upS (upS τ 7 (flA (τ 22) (8 * i) (8 * d) (τ 7) (k))) 20 (upd (τ 20) i (flL (τ 22) (8 * i) (8 * d) (τ 7) (τ 20 i) (k))))) Z Mz9 (cm_over l D T o ad (upS (upS τ 7 (flA (τ 22) (8 * i) (8 * d) (τ 7) (k))) 20 (upd (τ 20) i (flL (τ 22) (8 * i) (8 * d) (τ 7) (τ 20 i) (k)))) (i) (d) (k) (by omega) (by omega) (by omega)) (cwV 3 hts gX6_press_X6_over rfl rfl rfl (by decide +kernel) ⟨by decide, by decide⟩) (va_recv Z.2.1 Mz9.1 (ci := 7) (q0 := 0) rfl rfl) rfl hl9.1 (Nat.le_of_ble_eq_true rfl) dX6_press_240 ⟨by decide, by decide⟩ rfl (fun Hp9 lc9 Mz9 => ?_)
              refine lv_istore (lv' := [(8, .int (ovr (flA (τ 22) (8 * i) (8 * d) (τ 7) (k)) (τ 22) (8 * i) (8 * d) k)), (0, .ref o), (1, .int (nI (i))), (2, .int (nI (d))), (3, .int (nI (en))), (4, .int 1), (5, .int 1), (6, .int (cntb (ovr (τ 7) (τ 22) (8 * i) (8 * d)) 8)), (7, .int (nI (k)))]) hx hb dX6_press_243 hl9 (by decide) rfl (fun sl9 hl9 => ?_)
              refine lv_aload_n hx hb dX6_press_245 rfl (lv_at hl9 1 rfl) ?_
              refine z_getf Z Mz9 hin6 0 rfl rfl 7 (by decide) L25 rfl (v := .ref (ad 7)) rfl dX6_press_246 ?_
              refine lv_bipush (v := 8) hx hb dX6_press_249 (by decide) ?_
              refine lv_iload_n hx hb dX6_press_251 rfl (lv_at hl9 2 rfl) ?_
              refine zn_imul (a := 8) (b := i) hx hb dX6_press_252 ?_
              refine lv_iload hx hb dX6_press_253 (lv_at hl9 8 rfl) ?_
              refine zn_iadd (a := 8 * i) (b := k) hx hb dX6_press_255 ?_
              refine lv_dup2_11 hx hb dX6_press_256 rfl rfl ?_
              refine z_iald Z Mz9 6 (h0 := ad 7) (n := 96) (f := flA (τ 22) (8 * i) (8 * d) (τ 7) (k)) rfl (j := (8 * i) + k) (by omega) (by decide) dX6_press_257 ?_
              refine lv_iload hx hb dX6_press_258 (lv_at hl9 0 rfl) ?_
              refine lv_isub hx hb dX6_press_260 ?_
              refine z_iast Z Mz9 6 (h0 := ad 7) (n := 96) (f := flA (τ 22) (8 * i) (8 * d) (τ 7) (k)) rfl (j := (8 * i) + k) (x := ((flA (τ 22) (8 * i) (8 * d) (τ 7) (k)) ((8 * i) + k)) - (ovr (flA (τ 22) (8 * i) (8 * d) (τ 7) (k)) (τ 22) (8 * i) (8 * d) k)) (by omega) (by decide) (ws' := mW o ad T (upS (upS τ 7 (upd (flA (τ 22) (8 * i) (8 * d) (τ 7) (k)) ((8 * i) + k) (((flA (τ 22) (8 * i) (8 * d) (τ 7) (k)) ((8 * i) + k)) - (ovr (flA (τ 22) (8 * i) (8 * d) (τ 7) (k)) (τ 22) (8 * i) (8 * d) k)))) 20 (upd (τ 20) i (flL (τ 22) (8 * i) (8 * d) (τ 7) (τ 20 i) (k))))) rfl dX6_press_261 (fun Hp9 lc9 Mz9 => ?_)
              refine lv_aload_n hx hb dX6_press_262 rfl (lv_at hl9 1 rfl) ?_
              refine z_getf Z Mz9 hin6 0 rfl rfl 20 (by decide) L65 rfl (v := .ref (ad 20)) rfl dX6_press_263 ?_
              refine lv_iload_n hx hb dX6_press_266 rfl (lv_at hl9 2 rfl) ?_
              refine lv_dup2_11 hx hb dX6_press_267 rfl rfl ?_
              refine z_iald Z Mz9 19 (h0 := ad 20) (n := 12) (f := upd (τ 20) i (flL (τ 22) (8 * i) (8 * d) (τ 7) (τ 20 i) (k))) rfl (j := i) (by omega) (by decide) dX6_press_268 ?_
              refine zn_top (y := flL (τ 22) (8 * i) (8 * d) (τ 7) (τ 20 i) (k)) (upd_same _ _ _) ?_
              refine lv_iload hx hb dX6_press_269 (lv_at hl9 0 rfl) ?_
              refine lv_iadd hx hb dX6_press_271 ?_
              refine z_iast Z Mz9 19 (h0 := ad 20) (n := 12) (f := upd (τ 20) i (flL (τ 22) (8 * i) (8 * d) (τ 7) (τ 20 i) (k))) rfl (j := i) (x := (flL (τ 22) (8 * i) (8 * d) (τ 7) (τ 20 i) (k)) + (ovr (flA (τ 22) (8 * i) (8 * d) (τ 7) (k)) (τ 22) (8 * i) (8 * d) k)) (by omega) (by decide) (ws' := mW o ad T (upS (upS τ 7 (upd (flA (τ 22) (8 * i) (8 * d) (τ 7) (k)) ((8 * i) + k) (((flA (τ 22) (8 * i) (8 * d) (τ 7) (k)) ((8 * i) + k)) - (ovr (flA (τ 22) (8 * i) (8 * d) (τ 7) (k)) (τ 22) (8 * i) (8 * d) k)))) 20 (upd (upd (τ 20) i (flL (τ 22) (8 * i) (8 * d) (τ 7) (τ 20 i) (k))) i ((flL (τ 22) (8 * i) (8 * d) (τ 7) (τ 20 i) (k)) + (ovr (flA (τ 22) (8 * i) (8 * d) (τ 7) (k)) (τ 22) (8 * i) (8 * d) k))))) rfl dX6_press_272 (fun Hp9 lc9 Mz9 => ?_)
              refine lv_iinc (v := nI (k + 1)) (lv' := [(7, .int (nI (k + 1))), (8, .int (ovr (flA (τ 22) (8 * i) (8 * d) (τ 7) (k)) (τ 22) (8 * i) (8 * d) k)), (0, .ref o), (1, .int (nI (i))), (2, .int (nI (d))), (3, .int (nI (en))), (4, .int 1), (5, .int 1), (6, .int (cntb (ovr (τ 7) (τ 22) (8 * i) (8 * d)) 8))]) hx hb dX6_press_273 hl9 (k := 8) rfl (nI_add (k) 1) (by decide) rfl (fun sl9 hl9 => ?_)
              refine lv_goto (tgt := 223) hx hb dX6_press_276 (by decide) ?_
              exact ih223 (k + 1) (by omega)  _ _ _ (zM_w (by simp only [flA, flL, upd_upd]) Mz9) (lv_sub hl9 [2, 3, 4, 5, 6, 7, 8, 0] rfl)
          exact LP223_2 (8 - 0) (0) (by omega)  _ _ _ (zM_w (by simp only [flA, flL, upd_id, upS_id]) Mz9) (lv_sub hl9 [1, 2, 3, 4, 5, 6, 7, 0] rfl)
        ·
          refine lv_iconst (v := 0) hx hb dX6_press_220 (by decide) ?_
          refine lv_istore (lv' := [(7, .int 0), (0, .ref o), (1, .int (nI (i))), (2, .int (nI (d))), (3, .int (nI (en))), (4, .int 1), (5, .int 1), (6, .int (cntb (ovr (τ 7) (τ 22) (8 * i) (8 * d)) (8)))]) hx hb dX6_press_221 hl9 (by decide) rfl (fun sl9 hl9 => ?_)
          refine lv_iload hx hb dX6_press_223 (lv_at hl9 0 rfl) ?_
          refine lv_bipush (v := 8) hx hb dX6_press_225 (by decide) ?_
          refine lv_icmp_ge (tgt := 279) hx hb dX6_press_227 (by decide) (fun h => absurd h (by decide)) (fun _ => ?_)
          refine lv_iload hx hb dX6_press_230 (lv_at hl9 7 rfl) ?_
          refine lv_if_ne (tgt := 279) hx hb dX6_press_232 (by decide) (fun _ => ?_) (fun h => absurd h (hs0))
          refine lv_iload hx hb dX6_press_279 (lv_at hl9 7 rfl) ?_
          exact hret _ _ _ _ _ sl9 _ _ Mz9 (by have e9 : ¬ CB (ovr (FL (σ 22) (8 * i) (8 * d) (en * cn / 1000) (σ 7)) (σ 22) (8 * i) (8 * d)) = 0 := (by rw [CB_eq, ← h7t, ← h22t]; exact hs0); simp only [if_neg e9, upd_id]; rw [hτ]; rfl) (by rw [CB_eq, ← h7t, ← h22t]) (rfl) (Nat.le_refl _) (Nat.le_refl _) dX6_press_281
      | succ n186 ih186 =>
        intro k hk9 Hp9 lc9 sl9 Mz9 hl9
        refine lv_iload hx hb dX6_press_186 (lv_at hl9 7 rfl) ?_
        refine lv_bipush (v := 8) hx hb dX6_press_188 (by decide) ?_
        refine zn_icmp_ge (a := k) (b := 8) (tgt := 220) (by omega) (by decide) hx hb dX6_press_190 (by decide) (fun h => absurd h (by omega)) (fun _ => ?_)
        refine lv_iload hx hb dX6_press_193 (lv_at hl9 6 rfl) ?_
        refine lv_aload_n hx hb dX6_press_195 rfl (lv_at hl9 0 rfl) ?_
        refine lv_iload_n hx hb dX6_press_196 rfl (lv_at hl9 1 rfl) ?_
        refine lv_iload_n hx hb dX6_press_197 rfl (lv_at hl9 2 rfl) ?_
        refine lv_iload hx hb dX6_press_198 (lv_at hl9 7 rfl) ?_
        refine z_callAi (As := [.int (nI (i)), .int (nI (d)), .int (nI (k))]) (rest := [.int (cntb (ovr (τ 7) (τ 22) (8 * i) (8 * d)) (k))]) (rv := ovr (τ 7) (τ 22) (8 * i) (8 * d) k) (wc' := mW o ad T τ) Z Mz9 (cm_over l D T o ad (τ) (i) (d) (k) (by omega) (by omega) (by omega)) (cwV 3 hts gX6_press_X6_over rfl rfl rfl (by decide +kernel) ⟨by decide, by decide⟩) (va_recv Z.2.1 Mz9.1 (ci := 7) (q0 := 0) rfl rfl) rfl hl9.1 (Nat.le_of_ble_eq_true rfl) dX6_press_200 ⟨by decide, by decide⟩ rfl (fun Hp9 lc9 Mz9 => ?_)
        refine lv_if_ge (tgt := 210) hx hb dX6_press_203 (by decide) (fun c_3 => ?_) (fun c_3 => ?_)
        ·
          refine lv_iconst (v := 0) hx hb dX6_press_210 (by decide) ?_
          refine lv_iadd hx hb dX6_press_211 ?_
          refine lv_istore (lv' := [(6, .int ((cntb (ovr (τ 7) (τ 22) (8 * i) (8 * d)) (k)) + 0)), (0, .ref o), (1, .int (nI (i))), (2, .int (nI (d))), (3, .int (nI (en))), (4, .int 1), (5, .int 1), (7, .int (nI (k)))]) hx hb dX6_press_212 hl9 (by decide) rfl (fun sl9 hl9 => ?_)
          refine lv_iinc (v := nI (k + 1)) (lv' := [(7, .int (nI (k + 1))), (6, .int ((cntb (ovr (τ 7) (τ 22) (8 * i) (8 * d)) (k)) + 0)), (0, .ref o), (1, .int (nI (i))), (2, .int (nI (d))), (3, .int (nI (en))), (4, .int 1), (5, .int 1)]) hx hb dX6_press_214 hl9 (k := 7) rfl (nI_add (k) 1) (by decide) rfl (fun sl9 hl9 => ?_)
          refine lv_goto (tgt := 186) hx hb dX6_press_217 (by decide) ?_
          exact ih186 (k + 1) (by omega)  _ _ _ Mz9 (lv_w (show ([(0, .ref o), (1, .int (nI (i))), (2, .int (nI (d))), (3, .int (nI (en))), (4, .int 1), (5, .int 1), (6, .int ((cntb (ovr (τ 7) (τ 22) (8 * i) (8 * d)) (k)) + 0)), (7, .int (nI (k + 1)))] : List (Nat × Value)) = [(0, .ref o), (1, .int (nI (i))), (2, .int (nI (d))), (3, .int (nI (en))), (4, .int 1), (5, .int 1), (6, .int (cntb (ovr (τ 7) (τ 22) (8 * i) (8 * d)) (k + 1))), (7, .int (nI (k + 1)))] from by simp only [cntb, add_0, if_neg (Int32.not_lt.mpr c_3)]) (lv_sub hl9 [2, 3, 4, 5, 6, 7, 1, 0] rfl))
        ·
          refine lv_iconst (v := 1) hx hb dX6_press_206 (by decide) ?_
          refine lv_goto (tgt := 211) hx hb dX6_press_207 (by decide) ?_
          refine lv_iadd hx hb dX6_press_211 ?_
          refine lv_istore (lv' := [(6, .int ((cntb (ovr (τ 7) (τ 22) (8 * i) (8 * d)) (k)) + 1)), (0, .ref o), (1, .int (nI (i))), (2, .int (nI (d))), (3, .int (nI (en))), (4, .int 1), (5, .int 1), (7, .int (nI (k)))]) hx hb dX6_press_212 hl9 (by decide) rfl (fun sl9 hl9 => ?_)
          refine lv_iinc (v := nI (k + 1)) (lv' := [(7, .int (nI (k + 1))), (6, .int ((cntb (ovr (τ 7) (τ 22) (8 * i) (8 * d)) (k)) + 1)), (0, .ref o), (1, .int (nI (i))), (2, .int (nI (d))), (3, .int (nI (en))), (4, .int 1), (5, .int 1)]) hx hb dX6_press_214 hl9 (k := 7) rfl (nI_add (k) 1) (by decide) rfl (fun sl9 hl9 => ?_)
          refine lv_goto (tgt := 186) hx hb dX6_press_217 (by decide) ?_
          exact ih186 (k + 1) (by omega)  _ _ _ Mz9 (lv_w (show ([(0, .ref o), (1, .int (nI (i))), (2, .int (nI (d))), (3, .int (nI (en))), (4, .int 1), (5, .int 1), (6, .int ((cntb (ovr (τ 7) (τ 22) (8 * i) (8 * d)) (k)) + 1)), (7, .int (nI (k + 1)))] : List (Nat × Value)) = [(0, .ref o), (1, .int (nI (i))), (2, .int (nI (d))), (3, .int (nI (en))), (4, .int 1), (5, .int 1), (6, .int (cntb (ovr (τ 7) (τ 22) (8 * i) (8 * d)) (k + 1))), (7, .int (nI (k + 1)))] from by simp only [cntb, add_0, if_pos (Int32.not_le.mp c_3)]) (lv_sub hl9 [2, 3, 4, 5, 6, 7, 1, 0] rfl))
    exact LP186_2 (8 - 0) (0) (by omega)  _ _ _ Mz9 (lv_sub hl9 [4, 5, 6, 7, 3, 2, 1, 0] rfl)
