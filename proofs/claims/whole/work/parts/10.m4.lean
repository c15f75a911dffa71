/-! ===== laid by program ===== -/
set_option maxHeartbeats 4000000 in
set_option maxRecDepth 100000 in
theorem cm_blow_b1 (l : Launch) (D : va_G) (T : Nat → ClassId) (o : Nat) (ad : Nat → Nat) (σ : Nat → Nat → Int32) (b t kd fo : Int32) (hB : bin (b) 0 (σ 5 0 - 1) = 0) : ZI l yX6_blow wsX6_blow (zrm 2 43) D T (mW o ad T σ) (mW o ad T (upS σ 31 (fun _ => 1))) [.ref o, .int (b), .int (t), .int (kd), .int (fo)] (0) 0 0 := by
  refine z_inI (cc := cX6_blow) (maxL := 11) (rt := .int) (by decide +kernel) rfl (Nat.le_of_ble_eq_true rfl) ?_
  intro p e s m args below meth c sl9 A Q Z hnm Mz9 hl9 hret
  have Z : zC p s m args c cX6_blow 11 RX6 wsX6_blow D T A := Z
  have hx := Z.1.1
  have hb := Z.1.2.1
  have hts := Z.1.2.2.2.2
  have hin6 : ∀ w ∈ wsX60, w ∈ wsX6_blow := fun w h => List.mem_cons_of_mem _ (List.mem_append_right _ h)
  have hH0 : s.heap = s.heap := rfl
  have L46 := hts (.fieldLink RX6 46 "AnvilHouseModel" "hasCrack" "[Z") (by decide +kernel)
  have L34 := hts (.fieldLink RX6 34 "AnvilHouseModel" "core" "[I") (by decide +kernel)
  have L25 := hts (.fieldLink RX6 25 "AnvilHouseModel" "areas" "[I") (by decide +kernel)
  have L43 := hts (.fieldLink RX6 43 "AnvilHouseModel" "laps" "[I") (by decide +kernel)
  have L37 := hts (.fieldLink RX6 37 "AnvilHouseModel" "grain" "[I") (by decide +kernel)
  have hl9 : lv_has sl9 11 [(0, .ref o), (1, .int (b)), (2, .int (t)), (3, .int (kd)), (4, .int (fo))] := hl9
  refine lv_aload_n hx hb dX6_blow_0 rfl (lv_at hl9 0 rfl) ?_
  refine lv_iload_n hx hb dX6_blow_1 rfl (lv_at hl9 1 rfl) ?_
  refine z_callAi (As := [.int (b)]) (rest := []) (rv := bin (b) 0 (σ 5 0 - 1)) (wc' := mW o ad T σ) Z Mz9 (cm_isBillet l D T o ad (σ) (b)) (cwV 1 hts gX6_blow_X6_isBillet rfl rfl rfl (by decide +kernel) ⟨by decide, by decide⟩) (va_recv Z.2.1 Mz9.1 (ci := 7) (q0 := 0) rfl rfl) rfl hl9.1 (Nat.le_of_ble_eq_true rfl) dX6_blow_2 ⟨by decide, by decide⟩ rfl (fun Hp9 lc9 Mz9 => ?_)
  refine zn_top (y := 0) (hB) ?_
  refine lv_if_eq (tgt := 19) hx hb dX6_blow_5 (by decide) (fun _ => ?_) (fun h => absurd h (by decide))
  refine lv_iconst (v := 0) hx hb dX6_blow_19 (by decide) ?_
  refine lv_istore (lv' := [(5, .int 0), (0, .ref o), (1, .int (b)), (2, .int (t)), (3, .int (kd)), (4, .int (fo))]) hx hb dX6_blow_20 hl9 (by decide) rfl (fun sl9 hl9 => ?_)
  refine lv_aload_n hx hb dX6_blow_22 rfl (lv_at hl9 1 rfl) ?_
  refine lv_iload hx hb dX6_blow_23 (lv_at hl9 0 rfl) ?_
  refine lv_iload_n hx hb dX6_blow_25 rfl (lv_at hl9 4 rfl) ?_
  refine lv_iconst (v := 0) hx hb dX6_blow_26 (by decide) ?_
  refine lv_iconst (v := 1) hx hb dX6_blow_27 (by decide) ?_
  refine z_callSi (As := [.int (kd), .int 0, .int 1]) (rest := [.int 0, .ref o]) Z.1 (cm_in l (kd) (0) (1)) (va_cwS 3 hts gX6_blow_X6_in rfl rfl rfl (by decide +kernel) ⟨by decide, by decide⟩) rfl hl9.1 (Nat.le_of_ble_eq_true rfl) dX6_blow_28 ⟨by decide, by decide⟩ rfl ?_
  refine lv_if_eq (tgt := 49) hx hb dX6_blow_31 (by decide) (fun c_1 => ?_) (fun c_1 => ?_)
  ·
    refine lv_iconst (v := 0) hx hb dX6_blow_49 (by decide) ?_
    refine lv_iload hx hb dX6_blow_50 (lv_at hl9 0 rfl) ?_
    refine lv_if_eq (tgt := 77) hx hb dX6_blow_52 (by decide) (fun _ => ?_) (fun h => absurd h (by decide))
    refine lv_iconst (v := 0) hx hb dX6_blow_77 (by decide) ?_
    refine z_callAi (As := [.int 0, .int 0, .int 0]) (rest := []) (rv := if gth (0) (0) (0) = 0 then 1 else 0) (wc' := mW o ad T (upS σ 31 (fun _ => gth (0) (0) (0)))) Z Mz9 (cm_goes l D T o ad (σ) (0) (0) (0)) (cwV 3 hts gX6_blow_X6_goes rfl rfl rfl (by decide +kernel) ⟨by decide, by decide⟩) (va_recv Z.2.1 Mz9.1 (ci := 7) (q0 := 0) rfl rfl) rfl hl9.1 (Nat.le_of_ble_eq_true rfl) dX6_blow_78 ⟨by decide, by decide⟩ rfl (fun Hp9 lc9 Mz9 => ?_)
    refine zn_top (y := 0) (by rw [gth_1]; rfl) ?_
    refine lv_if_ne (tgt := 86) hx hb dX6_blow_81 (by decide) (fun h => absurd h (by decide)) (fun _ => ?_)
    refine lv_iconst (v := 0) hx hb dX6_blow_84 (by decide) ?_
    exact hret _ _ _ _ _ sl9 _ _ Mz9 (by rw [gth_1]) (rfl) (rfl) (Nat.le_refl _) (Nat.le_refl _) dX6_blow_85
  ·
    refine lv_iload hx hb dX6_blow_34 (lv_at hl9 5 rfl) ?_
    refine lv_iconst (v := 1) hx hb dX6_blow_36 (by decide) ?_
    refine lv_bipush (v := 20) hx hb dX6_blow_37 (by decide) ?_
    refine z_callSi (As := [.int (fo), .int 1, .int 20]) (rest := [.int 0, .ref o]) Z.1 (cm_in l (fo) (1) (20)) (va_cwS 3 hts gX6_blow_X6_in rfl rfl rfl (by decide +kernel) ⟨by decide, by decide⟩) rfl hl9.1 (Nat.le_of_ble_eq_true rfl) dX6_blow_39 ⟨by decide, by decide⟩ rfl ?_
    refine lv_if_eq (tgt := 49) hx hb dX6_blow_42 (by decide) (fun c_2 => ?_) (fun c_2 => ?_)
    ·
      refine lv_iconst (v := 0) hx hb dX6_blow_49 (by decide) ?_
      refine lv_iload hx hb dX6_blow_50 (lv_at hl9 0 rfl) ?_
      refine lv_if_eq (tgt := 77) hx hb dX6_blow_52 (by decide) (fun _ => ?_) (fun h => absurd h (by decide))
      refine lv_iconst (v := 0) hx hb dX6_blow_77 (by decide) ?_
      refine z_callAi (As := [.int 0, .int 0, .int 0]) (rest := []) (rv := if gth (0) (0) (0) = 0 then 1 else 0) (wc' := mW o ad T (upS σ 31 (fun _ => gth (0) (0) (0)))) Z Mz9 (cm_goes l D T o ad (σ) (0) (0) (0)) (cwV 3 hts gX6_blow_X6_goes rfl rfl rfl (by decide +kernel) ⟨by decide, by decide⟩) (va_recv Z.2.1 Mz9.1 (ci := 7) (q0 := 0) rfl rfl) rfl hl9.1 (Nat.le_of_ble_eq_true rfl) dX6_blow_78 ⟨by decide, by decide⟩ rfl (fun Hp9 lc9 Mz9 => ?_)
      refine zn_top (y := 0) (by rw [gth_1]; rfl) ?_
      refine lv_if_ne (tgt := 86) hx hb dX6_blow_81 (by decide) (fun h => absurd h (by decide)) (fun _ => ?_)
      refine lv_iconst (v := 0) hx hb dX6_blow_84 (by decide) ?_
      exact hret _ _ _ _ _ sl9 _ _ Mz9 (by rw [gth_1]) (rfl) (rfl) (Nat.le_refl _) (Nat.le_refl _) dX6_blow_85
    ·
      refine lv_iconst (v := 1) hx hb dX6_blow_45 (by decide) ?_
      refine lv_goto (tgt := 50) hx hb dX6_blow_46 (by decide) ?_
      refine lv_iload hx hb dX6_blow_50 (lv_at hl9 0 rfl) ?_
      refine lv_if_eq (tgt := 77) hx hb dX6_blow_52 (by decide) (fun _ => ?_) (fun h => absurd h (by decide))
      refine lv_iconst (v := 0) hx hb dX6_blow_77 (by decide) ?_
      refine z_callAi (As := [.int 0, .int 1, .int 0]) (rest := []) (rv := if gth (0) (1) (0) = 0 then 1 else 0) (wc' := mW o ad T (upS σ 31 (fun _ => gth (0) (1) (0)))) Z Mz9 (cm_goes l D T o ad (σ) (0) (1) (0)) (cwV 3 hts gX6_blow_X6_goes rfl rfl rfl (by decide +kernel) ⟨by decide, by decide⟩) (va_recv Z.2.1 Mz9.1 (ci := 7) (q0 := 0) rfl rfl) rfl hl9.1 (Nat.le_of_ble_eq_true rfl) dX6_blow_78 ⟨by decide, by decide⟩ rfl (fun Hp9 lc9 Mz9 => ?_)
      refine zn_top (y := 0) (by rw [gth_1]; rfl) ?_
      refine lv_if_ne (tgt := 86) hx hb dX6_blow_81 (by decide) (fun h => absurd h (by decide)) (fun _ => ?_)
      refine lv_iconst (v := 0) hx hb dX6_blow_84 (by decide) ?_
      exact hret _ _ _ _ _ sl9 _ _ Mz9 (by rw [gth_1]) (rfl) (rfl) (Nat.le_refl _) (Nat.le_refl _) dX6_blow_85
set_option maxHeartbeats 4000000 in
set_option maxRecDepth 100000 in
theorem cm_blow_b1s (l : Launch) (D : va_G) (T : Nat → ClassId) (o : Nat) (ad : Nat → Nat) (σ : Nat → Nat → Int32) (b t kd fo : Int32) (hB : bin (b) 0 (σ 5 0 - 1) = 1) (hS : bin (t) 0 7 = 0) : ZI l yX6_blow wsX6_blow (zrm 2 43) D T (mW o ad T σ) (mW o ad T (upS σ 31 (fun _ => 1))) [.ref o, .int (b), .int (t), .int (kd), .int (fo)] (0) 0 0 := by
  refine z_inI (cc := cX6_blow) (maxL := 11) (rt := .int) (by decide +kernel) rfl (Nat.le_of_ble_eq_true rfl) ?_
  intro p e s m args below meth c sl9 A Q Z hnm Mz9 hl9 hret
  have Z : zC p s m args c cX6_blow 11 RX6 wsX6_blow D T A := Z
  have hx := Z.1.1
  have hb := Z.1.2.1
  have hts := Z.1.2.2.2.2
  have hin6 : ∀ w ∈ wsX60, w ∈ wsX6_blow := fun w h => List.mem_cons_of_mem _ (List.mem_append_right _ h)
  have hH0 : s.heap = s.heap := rfl
  have L46 := hts (.fieldLink RX6 46 "AnvilHouseModel" "hasCrack" "[Z") (by decide +kernel)
  have L34 := hts (.fieldLink RX6 34 "AnvilHouseModel" "core" "[I") (by decide +kernel)
  have L25 := hts (.fieldLink RX6 25 "AnvilHouseModel" "areas" "[I") (by decide +kernel)
  have L43 := hts (.fieldLink RX6 43 "AnvilHouseModel" "laps" "[I") (by decide +kernel)
  have L37 := hts (.fieldLink RX6 37 "AnvilHouseModel" "grain" "[I") (by decide +kernel)
  have hl9 : lv_has sl9 11 [(0, .ref o), (1, .int (b)), (2, .int (t)), (3, .int (kd)), (4, .int (fo))] := hl9
  refine lv_aload_n hx hb dX6_blow_0 rfl (lv_at hl9 0 rfl) ?_
  refine lv_iload_n hx hb dX6_blow_1 rfl (lv_at hl9 1 rfl) ?_
  refine z_callAi (As := [.int (b)]) (rest := []) (rv := bin (b) 0 (σ 5 0 - 1)) (wc' := mW o ad T σ) Z Mz9 (cm_isBillet l D T o ad (σ) (b)) (cwV 1 hts gX6_blow_X6_isBillet rfl rfl rfl (by decide +kernel) ⟨by decide, by decide⟩) (va_recv Z.2.1 Mz9.1 (ci := 7) (q0 := 0) rfl rfl) rfl hl9.1 (Nat.le_of_ble_eq_true rfl) dX6_blow_2 ⟨by decide, by decide⟩ rfl (fun Hp9 lc9 Mz9 => ?_)
  refine zn_top (y := 1) (hB) ?_
  refine lv_if_eq (tgt := 19) hx hb dX6_blow_5 (by decide) (fun h => absurd h (by decide)) (fun _ => ?_)
  refine lv_iload_n hx hb dX6_blow_8 rfl (lv_at hl9 2 rfl) ?_
  refine z_callSi (As := [.int (t)]) (rest := []) Z.1 (cm_isSection l (t)) (va_cwS 1 hts gX6_blow_X6_isSection rfl rfl rfl (by decide +kernel) ⟨by decide, by decide⟩) rfl hl9.1 (Nat.le_of_ble_eq_true rfl) dX6_blow_9 ⟨by decide, by decide⟩ rfl ?_
  refine zn_top (y := 0) (hS) ?_
  refine lv_if_eq (tgt := 19) hx hb dX6_blow_12 (by decide) (fun _ => ?_) (fun h => absurd h (by decide))
  refine lv_iconst (v := 0) hx hb dX6_blow_19 (by decide) ?_
  refine lv_istore (lv' := [(5, .int 0), (0, .ref o), (1, .int (b)), (2, .int (t)), (3, .int (kd)), (4, .int (fo))]) hx hb dX6_blow_20 hl9 (by decide) rfl (fun sl9 hl9 => ?_)
  refine lv_aload_n hx hb dX6_blow_22 rfl (lv_at hl9 1 rfl) ?_
  refine lv_iload hx hb dX6_blow_23 (lv_at hl9 0 rfl) ?_
  refine lv_iload_n hx hb dX6_blow_25 rfl (lv_at hl9 4 rfl) ?_
  refine lv_iconst (v := 0) hx hb dX6_blow_26 (by decide) ?_
  refine lv_iconst (v := 1) hx hb dX6_blow_27 (by decide) ?_
  refine z_callSi (As := [.int (kd), .int 0, .int 1]) (rest := [.int 0, .ref o]) Z.1 (cm_in l (kd) (0) (1)) (va_cwS 3 hts gX6_blow_X6_in rfl rfl rfl (by decide +kernel) ⟨by decide, by decide⟩) rfl hl9.1 (Nat.le_of_ble_eq_true rfl) dX6_blow_28 ⟨by decide, by decide⟩ rfl ?_
  refine lv_if_eq (tgt := 49) hx hb dX6_blow_31 (by decide) (fun c_1 => ?_) (fun c_1 => ?_)
  ·
    refine lv_iconst (v := 0) hx hb dX6_blow_49 (by decide) ?_
    refine lv_iload hx hb dX6_blow_50 (lv_at hl9 0 rfl) ?_
    refine lv_if_eq (tgt := 77) hx hb dX6_blow_52 (by decide) (fun _ => ?_) (fun h => absurd h (by decide))
    refine lv_iconst (v := 0) hx hb dX6_blow_77 (by decide) ?_
    refine z_callAi (As := [.int 0, .int 0, .int 0]) (rest := []) (rv := if gth (0) (0) (0) = 0 then 1 else 0) (wc' := mW o ad T (upS σ 31 (fun _ => gth (0) (0) (0)))) Z Mz9 (cm_goes l D T o ad (σ) (0) (0) (0)) (cwV 3 hts gX6_blow_X6_goes rfl rfl rfl (by decide +kernel) ⟨by decide, by decide⟩) (va_recv Z.2.1 Mz9.1 (ci := 7) (q0 := 0) rfl rfl) rfl hl9.1 (Nat.le_of_ble_eq_true rfl) dX6_blow_78 ⟨by decide, by decide⟩ rfl (fun Hp9 lc9 Mz9 => ?_)
    refine zn_top (y := 0) (by rw [gth_1]; rfl) ?_
    refine lv_if_ne (tgt := 86) hx hb dX6_blow_81 (by decide) (fun h => absurd h (by decide)) (fun _ => ?_)
    refine lv_iconst (v := 0) hx hb dX6_blow_84 (by decide) ?_
    exact hret _ _ _ _ _ sl9 _ _ Mz9 (by rw [gth_1]) (rfl) (rfl) (Nat.le_refl _) (Nat.le_refl _) dX6_blow_85
  ·
    refine lv_iload hx hb dX6_blow_34 (lv_at hl9 5 rfl) ?_
    refine lv_iconst (v := 1) hx hb dX6_blow_36 (by decide) ?_
    refine lv_bipush (v := 20) hx hb dX6_blow_37 (by decide) ?_
    refine z_callSi (As := [.int (fo), .int 1, .int 20]) (rest := [.int 0, .ref o]) Z.1 (cm_in l (fo) (1) (20)) (va_cwS 3 hts gX6_blow_X6_in rfl rfl rfl (by decide +kernel) ⟨by decide, by decide⟩) rfl hl9.1 (Nat.le_of_ble_eq_true rfl) dX6_blow_39 ⟨by decide, by decide⟩ rfl ?_
    refine lv_if_eq (tgt := 49) hx hb dX6_blow_42 (by decide) (fun c_2 => ?_) (fun c_2 => ?_)
    ·
      refine lv_iconst (v := 0) hx hb dX6_blow_49 (by decide) ?_
      refine lv_iload hx hb dX6_blow_50 (lv_at hl9 0 rfl) ?_
      refine lv_if_eq (tgt := 77) hx hb dX6_blow_52 (by decide) (fun _ => ?_) (fun h => absurd h (by decide))
      refine lv_iconst (v := 0) hx hb dX6_blow_77 (by decide) ?_
      refine z_callAi (As := [.int 0, .int 0, .int 0]) (rest := []) (rv := if gth (0) (0) (0) = 0 then 1 else 0) (wc' := mW o ad T (upS σ 31 (fun _ => gth (0) (0) (0)))) Z Mz9 (cm_goes l D T o ad (σ) (0) (0) (0)) (cwV 3 hts gX6_blow_X6_goes rfl rfl rfl (by decide +kernel) ⟨by decide, by decide⟩) (va_recv Z.2.1 Mz9.1 (ci := 7) (q0 := 0) rfl rfl) rfl hl9.1 (Nat.le_of_ble_eq_true rfl) dX6_blow_78 ⟨by decide, by decide⟩ rfl (fun Hp9 lc9 Mz9 => ?_)
      refine zn_top (y := 0) (by rw [gth_1]; rfl) ?_
      refine lv_if_ne (tgt := 86) hx hb dX6_blow_81 (by decide) (fun h => absurd h (by decide)) (fun _ => ?_)
      refine lv_iconst (v := 0) hx hb dX6_blow_84 (by decide) ?_
      exact hret _ _ _ _ _ sl9 _ _ Mz9 (by rw [gth_1]) (rfl) (rfl) (Nat.le_refl _) (Nat.le_refl _) dX6_blow_85
    ·
      refine lv_iconst (v := 1) hx hb dX6_blow_45 (by decide) ?_
      refine lv_goto (tgt := 50) hx hb dX6_blow_46 (by decide) ?_
      refine lv_iload hx hb dX6_blow_50 (lv_at hl9 0 rfl) ?_
      refine lv_if_eq (tgt := 77) hx hb dX6_blow_52 (by decide) (fun _ => ?_) (fun h => absurd h (by decide))
      refine lv_iconst (v := 0) hx hb dX6_blow_77 (by decide) ?_
      refine z_callAi (As := [.int 0, .int 1, .int 0]) (rest := []) (rv := if gth (0) (1) (0) = 0 then 1 else 0) (wc' := mW o ad T (upS σ 31 (fun _ => gth (0) (1) (0)))) Z Mz9 (cm_goes l D T o ad (σ) (0) (1) (0)) (cwV 3 hts gX6_blow_X6_goes rfl rfl rfl (by decide +kernel) ⟨by decide, by decide⟩) (va_recv Z.2.1 Mz9.1 (ci := 7) (q0 := 0) rfl rfl) rfl hl9.1 (Nat.le_of_ble_eq_true rfl) dX6_blow_78 ⟨by decide, by decide⟩ rfl (fun Hp9 lc9 Mz9 => ?_)
      refine zn_top (y := 0) (by rw [gth_1]; rfl) ?_
      refine lv_if_ne (tgt := 86) hx hb dX6_blow_81 (by decide) (fun h => absurd h (by decide)) (fun _ => ?_)
      refine lv_iconst (v := 0) hx hb dX6_blow_84 (by decide) ?_
      exact hret _ _ _ _ _ sl9 _ _ Mz9 (by rw [gth_1]) (rfl) (rfl) (Nat.le_refl _) (Nat.le_refl _) dX6_blow_85
set_option maxHeartbeats 4000000 in
set_option maxRecDepth 100000 in
theorem cm_blow_b2 (l : Launch) (D : va_G) (T : Nat → ClassId) (o : Nat) (ad : Nat → Nat) (σ : Nat → Nat → Int32) (i j : Nat) (kd fo : Int32) (hi : i < 12) (hj : j < 8) (h1 : bin (nI i) 0 (σ 5 0 - 1) = 1) (h2 : bin (nI j) 0 7 = 1) (hg : ¬ gth (1) (if bin (kd) (0) (1) = 0 then 0 else if bin (fo) (1) (20) = 0 then 0 else 1) (if σ 14 i = 0 then 1 else 0) = 0) : ZI l yX6_blow wsX6_blow (zrm 2 43) D T (mW o ad T σ) (mW o ad T (upS σ 31 (fun _ => gth (1) (if bin (kd) (0) (1) = 0 then 0 else if bin (fo) (1) (20) = 0 then 0 else 1) (if σ 14 i = 0 then 1 else 0)))) [.ref o, .int (nI (i)), .int (nI (j)), .int (kd), .int (fo)] (0) 0 0 := by
  refine z_inI (cc := cX6_blow) (maxL := 11) (rt := .int) (by decide +kernel) rfl (Nat.le_of_ble_eq_true rfl) ?_
  intro p e s m args below meth c sl9 A Q Z hnm Mz9 hl9 hret
  have Z : zC p s m args c cX6_blow 11 RX6 wsX6_blow D T A := Z
  have hx := Z.1.1
  have hb := Z.1.2.1
  have hts := Z.1.2.2.2.2
  have hin6 : ∀ w ∈ wsX60, w ∈ wsX6_blow := fun w h => List.mem_cons_of_mem _ (List.mem_append_right _ h)
  have hH0 : s.heap = s.heap := rfl
  have L46 := hts (.fieldLink RX6 46 "AnvilHouseModel" "hasCrack" "[Z") (by decide +kernel)
  have L34 := hts (.fieldLink RX6 34 "AnvilHouseModel" "core" "[I") (by decide +kernel)
  have L25 := hts (.fieldLink RX6 25 "AnvilHouseModel" "areas" "[I") (by decide +kernel)
  have L43 := hts (.fieldLink RX6 43 "AnvilHouseModel" "laps" "[I") (by decide +kernel)
  have L37 := hts (.fieldLink RX6 37 "AnvilHouseModel" "grain" "[I") (by decide +kernel)
  have hl9 : lv_has sl9 11 [(0, .ref o), (1, .int (nI (i))), (2, .int (nI (j))), (3, .int (kd)), (4, .int (fo))] := hl9
  refine lv_aload_n hx hb dX6_blow_0 rfl (lv_at hl9 0 rfl) ?_
  refine lv_iload_n hx hb dX6_blow_1 rfl (lv_at hl9 1 rfl) ?_
  refine z_callAi (As := [.int (nI (i))]) (rest := []) (rv := bin (nI (i)) 0 (σ 5 0 - 1)) (wc' := mW o ad T σ) Z Mz9 (cm_isBillet l D T o ad (σ) (nI (i))) (cwV 1 hts gX6_blow_X6_isBillet rfl rfl rfl (by decide +kernel) ⟨by decide, by decide⟩) (va_recv Z.2.1 Mz9.1 (ci := 7) (q0 := 0) rfl rfl) rfl hl9.1 (Nat.le_of_ble_eq_true rfl) dX6_blow_2 ⟨by decide, by decide⟩ rfl (fun Hp9 lc9 Mz9 => ?_)
  refine zn_top (y := 1) (h1) ?_
  refine lv_if_eq (tgt := 19) hx hb dX6_blow_5 (by decide) (fun h => absurd h (by decide)) (fun _ => ?_)
  refine lv_iload_n hx hb dX6_blow_8 rfl (lv_at hl9 2 rfl) ?_
  refine z_callSi (As := [.int (nI (j))]) (rest := []) Z.1 (cm_isSection l (nI (j))) (va_cwS 1 hts gX6_blow_X6_isSection rfl rfl rfl (by decide +kernel) ⟨by decide, by decide⟩) rfl hl9.1 (Nat.le_of_ble_eq_true rfl) dX6_blow_9 ⟨by decide, by decide⟩ rfl ?_
  refine zn_top (y := 1) (h2) ?_
  refine lv_if_eq (tgt := 19) hx hb dX6_blow_12 (by decide) (fun h => absurd h (by decide)) (fun _ => ?_)
  refine lv_iconst (v := 1) hx hb dX6_blow_15 (by decide) ?_
  refine lv_goto (tgt := 20) hx hb dX6_blow_16 (by decide) ?_
  refine lv_istore (lv' := [(5, .int 1), (0, .ref o), (1, .int (nI (i))), (2, .int (nI (j))), (3, .int (kd)), (4, .int (fo))]) hx hb dX6_blow_20 hl9 (by decide) rfl (fun sl9 hl9 => ?_)
  refine lv_aload_n hx hb dX6_blow_22 rfl (lv_at hl9 1 rfl) ?_
  refine lv_iload hx hb dX6_blow_23 (lv_at hl9 0 rfl) ?_
  refine lv_iload_n hx hb dX6_blow_25 rfl (lv_at hl9 4 rfl) ?_
  refine lv_iconst (v := 0) hx hb dX6_blow_26 (by decide) ?_
  refine lv_iconst (v := 1) hx hb dX6_blow_27 (by decide) ?_
  refine z_callSi (As := [.int (kd), .int 0, .int 1]) (rest := [.int 1, .ref o]) Z.1 (cm_in l (kd) (0) (1)) (va_cwS 3 hts gX6_blow_X6_in rfl rfl rfl (by decide +kernel) ⟨by decide, by decide⟩) rfl hl9.1 (Nat.le_of_ble_eq_true rfl) dX6_blow_28 ⟨by decide, by decide⟩ rfl ?_
  refine lv_if_eq (tgt := 49) hx hb dX6_blow_31 (by decide) (fun c_1 => ?_) (fun c_1 => ?_)
  ·
    refine lv_iconst (v := 0) hx hb dX6_blow_49 (by decide) ?_
    refine lv_iload hx hb dX6_blow_50 (lv_at hl9 0 rfl) ?_
    refine lv_if_eq (tgt := 77) hx hb dX6_blow_52 (by decide) (fun h => absurd h (by decide)) (fun _ => ?_)
    refine lv_aload_n hx hb dX6_blow_55 rfl (lv_at hl9 1 rfl) ?_
    refine z_getf Z Mz9 hin6 0 rfl rfl 14 (by decide) L46 rfl (v := .ref (ad 14)) rfl dX6_blow_56 ?_
    refine lv_iload hx hb dX6_blow_59 (lv_at hl9 0 rfl) ?_
    refine lv_if_eq (tgt := 68) hx hb dX6_blow_61 (by decide) (fun h => absurd h (by decide)) (fun _ => ?_)
    refine lv_iload_n hx hb dX6_blow_64 rfl (lv_at hl9 2 rfl) ?_
    refine lv_goto (tgt := 69) hx hb dX6_blow_65 (by decide) ?_
    refine z_zald Z Mz9 13 (h0 := ad 14) (n := 12) (f := σ 14) rfl (j := i) (by omega) (by decide) dX6_blow_69 ?_
    refine lv_if_ne (tgt := 77) hx hb dX6_blow_70 (by decide) (fun c_2 => ?_) (fun c_2 => ?_)
    ·
      refine lv_iconst (v := 0) hx hb dX6_blow_77 (by decide) ?_
      refine z_callAi (As := [.int 1, .int 0, .int 0]) (rest := []) (rv := if gth (1) (0) (0) = 0 then 1 else 0) (wc' := mW o ad T (upS σ 31 (fun _ => gth (1) (0) (0)))) Z Mz9 (cm_goes l D T o ad (σ) (1) (0) (0)) (cwV 3 hts gX6_blow_X6_goes rfl rfl rfl (by decide +kernel) ⟨by decide, by decide⟩) (va_recv Z.2.1 Mz9.1 (ci := 7) (q0 := 0) rfl rfl) rfl hl9.1 (Nat.le_of_ble_eq_true rfl) dX6_blow_78 ⟨by decide, by decide⟩ rfl (fun Hp9 lc9 Mz9 => ?_)
      refine zn_top (y := 0) (by have h := hg; simp only [if_pos c_1, if_neg c_2] at h; exact if_neg h) ?_
      refine lv_if_ne (tgt := 86) hx hb dX6_blow_81 (by decide) (fun h => absurd h (by decide)) (fun _ => ?_)
      refine lv_iconst (v := 0) hx hb dX6_blow_84 (by decide) ?_
      exact hret _ _ _ _ _ sl9 _ _ Mz9 (by simp only [if_pos c_1, if_neg c_2] <;> rfl) (rfl) (rfl) (Nat.le_refl _) (Nat.le_refl _) dX6_blow_85
    ·
      refine lv_iconst (v := 1) hx hb dX6_blow_73 (by decide) ?_
      refine lv_goto (tgt := 78) hx hb dX6_blow_74 (by decide) ?_
      refine z_callAi (As := [.int 1, .int 0, .int 1]) (rest := []) (rv := if gth (1) (0) (1) = 0 then 1 else 0) (wc' := mW o ad T (upS σ 31 (fun _ => gth (1) (0) (1)))) Z Mz9 (cm_goes l D T o ad (σ) (1) (0) (1)) (cwV 3 hts gX6_blow_X6_goes rfl rfl rfl (by decide +kernel) ⟨by decide, by decide⟩) (va_recv Z.2.1 Mz9.1 (ci := 7) (q0 := 0) rfl rfl) rfl hl9.1 (Nat.le_of_ble_eq_true rfl) dX6_blow_78 ⟨by decide, by decide⟩ rfl (fun Hp9 lc9 Mz9 => ?_)
      refine zn_top (y := 0) (by have h := hg; simp only [if_pos c_1, if_pos c_2] at h; exact if_neg h) ?_
      refine lv_if_ne (tgt := 86) hx hb dX6_blow_81 (by decide) (fun h => absurd h (by decide)) (fun _ => ?_)
      refine lv_iconst (v := 0) hx hb dX6_blow_84 (by decide) ?_
      exact hret _ _ _ _ _ sl9 _ _ Mz9 (by simp only [if_pos c_1, if_pos c_2] <;> rfl) (rfl) (rfl) (Nat.le_refl _) (Nat.le_refl _) dX6_blow_85
  ·
    refine lv_iload hx hb dX6_blow_34 (lv_at hl9 5 rfl) ?_
    refine lv_iconst (v := 1) hx hb dX6_blow_36 (by decide) ?_
    refine lv_bipush (v := 20) hx hb dX6_blow_37 (by decide) ?_
    refine z_callSi (As := [.int (fo), .int 1, .int 20]) (rest := [.int 1, .ref o]) Z.1 (cm_in l (fo) (1) (20)) (va_cwS 3 hts gX6_blow_X6_in rfl rfl rfl (by decide +kernel) ⟨by decide, by decide⟩) rfl hl9.1 (Nat.le_of_ble_eq_true rfl) dX6_blow_39 ⟨by decide, by decide⟩ rfl ?_
    refine lv_if_eq (tgt := 49) hx hb dX6_blow_42 (by decide) (fun c_3 => ?_) (fun c_3 => ?_)
    ·
      refine lv_iconst (v := 0) hx hb dX6_blow_49 (by decide) ?_
      refine lv_iload hx hb dX6_blow_50 (lv_at hl9 0 rfl) ?_
      refine lv_if_eq (tgt := 77) hx hb dX6_blow_52 (by decide) (fun h => absurd h (by decide)) (fun _ => ?_)
      refine lv_aload_n hx hb dX6_blow_55 rfl (lv_at hl9 1 rfl) ?_
      refine z_getf Z Mz9 hin6 0 rfl rfl 14 (by decide) L46 rfl (v := .ref (ad 14)) rfl dX6_blow_56 ?_
      refine lv_iload hx hb dX6_blow_59 (lv_at hl9 0 rfl) ?_
      refine lv_if_eq (tgt := 68) hx hb dX6_blow_61 (by decide) (fun h => absurd h (by decide)) (fun _ => ?_)
      refine lv_iload_n hx hb dX6_blow_64 rfl (lv_at hl9 2 rfl) ?_
      refine lv_goto (tgt := 69) hx hb dX6_blow_65 (by decide) ?_
      refine z_zald Z Mz9 13 (h0 := ad 14) (n := 12) (f := σ 14) rfl (j := i) (by omega) (by decide) dX6_blow_69 ?_
      refine lv_if_ne (tgt := 77) hx hb dX6_blow_70 (by decide) (fun c_4 => ?_) (fun c_4 => ?_)
      ·
        refine lv_iconst (v := 0) hx hb dX6_blow_77 (by decide) ?_
        refine z_callAi (As := [.int 1, .int 0, .int 0]) (rest := []) (rv := if gth (1) (0) (0) = 0 then 1 else 0) (wc' := mW o ad T (upS σ 31 (fun _ => gth (1) (0) (0)))) Z Mz9 (cm_goes l D T o ad (σ) (1) (0) (0)) (cwV 3 hts gX6_blow_X6_goes rfl rfl rfl (by decide +kernel) ⟨by decide, by decide⟩) (va_recv Z.2.1 Mz9.1 (ci := 7) (q0 := 0) rfl rfl) rfl hl9.1 (Nat.le_of_ble_eq_true rfl) dX6_blow_78 ⟨by decide, by decide⟩ rfl (fun Hp9 lc9 Mz9 => ?_)
        refine zn_top (y := 0) (by have h := hg; simp only [if_neg c_1, if_pos c_3, if_neg c_4] at h; exact if_neg h) ?_
        refine lv_if_ne (tgt := 86) hx hb dX6_blow_81 (by decide) (fun h => absurd h (by decide)) (fun _ => ?_)
        refine lv_iconst (v := 0) hx hb dX6_blow_84 (by decide) ?_
        exact hret _ _ _ _ _ sl9 _ _ Mz9 (by simp only [if_neg c_1, if_pos c_3, if_neg c_4] <;> rfl) (rfl) (rfl) (Nat.le_refl _) (Nat.le_refl _) dX6_blow_85
      ·
        refine lv_iconst (v := 1) hx hb dX6_blow_73 (by decide) ?_
        refine lv_goto (tgt := 78) hx hb dX6_blow_74 (by decide) ?_
        refine z_callAi (As := [.int 1, .int 0, .int 1]) (rest := []) (rv := if gth (1) (0) (1) = 0 then 1 else 0) (wc' := mW o ad T (upS σ 31 (fun _ => gth (1) (0) (1)))) Z Mz9 (cm_goes l D T o ad (σ) (1) (0) (1)) (cwV 3 hts gX6_blow_X6_goes rfl rfl rfl (by decide +kernel) ⟨by decide, by decide⟩) (va_recv Z.2.1 Mz9.1 (ci := 7) (q0 := 0) rfl rfl) rfl hl9.1 (Nat.le_of_ble_eq_true rfl) dX6_blow_78 ⟨by decide, by decide⟩ rfl (fun Hp9 lc9 Mz9 => ?_)
        refine zn_top (y := 0) (by have h := hg; simp only [if_neg c_1, if_pos c_3, if_pos c_4] at h; exact if_neg h) ?_
        refine lv_if_ne (tgt := 86) hx hb dX6_blow_81 (by decide) (fun h => absurd h (by decide)) (fun _ => ?_)
        refine lv_iconst (v := 0) hx hb dX6_blow_84 (by decide) ?_
        exact hret _ _ _ _ _ sl9 _ _ Mz9 (by simp only [if_neg c_1, if_pos c_3, if_pos c_4] <;> rfl) (rfl) (rfl) (Nat.le_refl _) (Nat.le_refl _) dX6_blow_85
    ·
      refine lv_iconst (v := 1) hx hb dX6_blow_45 (by decide) ?_
      refine lv_goto (tgt := 50) hx hb dX6_blow_46 (by decide) ?_
      refine lv_iload hx hb dX6_blow_50 (lv_at hl9 0 rfl) ?_
      refine lv_if_eq (tgt := 77) hx hb dX6_blow_52 (by decide) (fun h => absurd h (by decide)) (fun _ => ?_)
      refine lv_aload_n hx hb dX6_blow_55 rfl (lv_at hl9 1 rfl) ?_
      refine z_getf Z Mz9 hin6 0 rfl rfl 14 (by decide) L46 rfl (v := .ref (ad 14)) rfl dX6_blow_56 ?_
      refine lv_iload hx hb dX6_blow_59 (lv_at hl9 0 rfl) ?_
      refine lv_if_eq (tgt := 68) hx hb dX6_blow_61 (by decide) (fun h => absurd h (by decide)) (fun _ => ?_)
      refine lv_iload_n hx hb dX6_blow_64 rfl (lv_at hl9 2 rfl) ?_
      refine lv_goto (tgt := 69) hx hb dX6_blow_65 (by decide) ?_
      refine z_zald Z Mz9 13 (h0 := ad 14) (n := 12) (f := σ 14) rfl (j := i) (by omega) (by decide) dX6_blow_69 ?_
      refine lv_if_ne (tgt := 77) hx hb dX6_blow_70 (by decide) (fun c_5 => ?_) (fun c_5 => ?_)
      ·
        refine lv_iconst (v := 0) hx hb dX6_blow_77 (by decide) ?_
        refine z_callAi (As := [.int 1, .int 1, .int 0]) (rest := []) (rv := if gth (1) (1) (0) = 0 then 1 else 0) (wc' := mW o ad T (upS σ 31 (fun _ => gth (1) (1) (0)))) Z Mz9 (cm_goes l D T o ad (σ) (1) (1) (0)) (cwV 3 hts gX6_blow_X6_goes rfl rfl rfl (by decide +kernel) ⟨by decide, by decide⟩) (va_recv Z.2.1 Mz9.1 (ci := 7) (q0 := 0) rfl rfl) rfl hl9.1 (Nat.le_of_ble_eq_true rfl) dX6_blow_78 ⟨by decide, by decide⟩ rfl (fun Hp9 lc9 Mz9 => ?_)
        refine zn_top (y := 0) (by have h := hg; simp only [if_neg c_1, if_neg c_3, if_neg c_5] at h; exact if_neg h) ?_
        refine lv_if_ne (tgt := 86) hx hb dX6_blow_81 (by decide) (fun h => absurd h (by decide)) (fun _ => ?_)
        refine lv_iconst (v := 0) hx hb dX6_blow_84 (by decide) ?_
        exact hret _ _ _ _ _ sl9 _ _ Mz9 (by simp only [if_neg c_1, if_neg c_3, if_neg c_5] <;> rfl) (rfl) (rfl) (Nat.le_refl _) (Nat.le_refl _) dX6_blow_85
      ·
        refine lv_iconst (v := 1) hx hb dX6_blow_73 (by decide) ?_
        refine lv_goto (tgt := 78) hx hb dX6_blow_74 (by decide) ?_
        refine z_callAi (As := [.int 1, .int 1, .int 1]) (rest := []) (rv := if gth (1) (1) (1) = 0 then 1 else 0) (wc' := mW o ad T (upS σ 31 (fun _ => 0))) Z Mz9 (cm_goes l D T o ad (σ) (1) (1) (1)) (cwV 3 hts gX6_blow_X6_goes rfl rfl rfl (by decide +kernel) ⟨by decide, by decide⟩) (va_recv Z.2.1 Mz9.1 (ci := 7) (q0 := 0) rfl rfl) rfl hl9.1 (Nat.le_of_ble_eq_true rfl) dX6_blow_78 ⟨by decide, by decide⟩ rfl (fun Hp9 lc9 Mz9 => ?_)
        refine zn_top (y := 0) (by have h := hg; simp only [if_neg c_1, if_neg c_3, if_pos c_5] at h; exact if_neg h) ?_
        refine lv_if_ne (tgt := 86) hx hb dX6_blow_81 (by decide) (fun h => absurd h (by decide)) (fun _ => ?_)
        refine lv_iconst (v := 0) hx hb dX6_blow_84 (by decide) ?_
        exact hret _ _ _ _ _ sl9 _ _ Mz9 (by simp only [if_neg c_1, if_neg c_3, if_pos c_5] <;> rfl) (rfl) (rfl) (Nat.le_refl _) (Nat.le_refl _) dX6_blow_85
set_option maxHeartbeats 4000000 in
set_option maxRecDepth 100000 in
theorem cm_blow_crack0 (l : Launch) (D : va_G) (T : Nat → ClassId) (o : Nat) (ad : Nat → Nat) (σ : Nat → Nat → Int32) (i j : Nat) (fo : Int32) (hi : i < 12) (hj : j < 8) (h1 : bin (nI i) 0 (σ 5 0 - 1) = 1) (h2 : bin (nI j) 0 7 = 1) (h4 : bin fo 1 20 = 1) (h14 : σ 14 i = 0) (h10 : σ 10 i < 700) : ZI l yX6_blow wsX6_blow (zrm 2 43) D T (mW o ad T σ) (mW o ad T (upS (upS σ 14 (upd (σ 14) i 1)) 31 (fun _ => 0))) [.ref o, .int (nI (i)), .int (nI (j)), .int 0, .int (fo)] (-1) 0 0 := by
  refine z_inI (cc := cX6_blow) (maxL := 11) (rt := .int) (by decide +kernel) rfl (Nat.le_of_ble_eq_true rfl) ?_
  intro p e s m args below meth c sl9 A Q Z hnm Mz9 hl9 hret
  have Z : zC p s m args c cX6_blow 11 RX6 wsX6_blow D T A := Z
  have hx := Z.1.1
  have hb := Z.1.2.1
  have hts := Z.1.2.2.2.2
  have hin6 : ∀ w ∈ wsX60, w ∈ wsX6_blow := fun w h => List.mem_cons_of_mem _ (List.mem_append_right _ h)
  have hH0 : s.heap = s.heap := rfl
  have L46 := hts (.fieldLink RX6 46 "AnvilHouseModel" "hasCrack" "[Z") (by decide +kernel)
  have L34 := hts (.fieldLink RX6 34 "AnvilHouseModel" "core" "[I") (by decide +kernel)
  have L25 := hts (.fieldLink RX6 25 "AnvilHouseModel" "areas" "[I") (by decide +kernel)
  have L43 := hts (.fieldLink RX6 43 "AnvilHouseModel" "laps" "[I") (by decide +kernel)
  have L37 := hts (.fieldLink RX6 37 "AnvilHouseModel" "grain" "[I") (by decide +kernel)
  have hl9 : lv_has sl9 11 [(0, .ref o), (1, .int (nI (i))), (2, .int (nI (j))), (3, .int 0), (4, .int (fo))] := hl9
  refine lv_aload_n hx hb dX6_blow_0 rfl (lv_at hl9 0 rfl) ?_
  refine lv_iload_n hx hb dX6_blow_1 rfl (lv_at hl9 1 rfl) ?_
  refine z_callAi (As := [.int (nI (i))]) (rest := []) (rv := bin (nI (i)) 0 (σ 5 0 - 1)) (wc' := mW o ad T σ) Z Mz9 (cm_isBillet l D T o ad (σ) (nI (i))) (cwV 1 hts gX6_blow_X6_isBillet rfl rfl rfl (by decide +kernel) ⟨by decide, by decide⟩) (va_recv Z.2.1 Mz9.1 (ci := 7) (q0 := 0) rfl rfl) rfl hl9.1 (Nat.le_of_ble_eq_true rfl) dX6_blow_2 ⟨by decide, by decide⟩ rfl (fun Hp9 lc9 Mz9 => ?_)
  refine zn_top (y := 1) (h1) ?_
  refine lv_if_eq (tgt := 19) hx hb dX6_blow_5 (by decide) (fun h => absurd h (by decide)) (fun _ => ?_)
  refine lv_iload_n hx hb dX6_blow_8 rfl (lv_at hl9 2 rfl) ?_
  refine z_callSi (As := [.int (nI (j))]) (rest := []) Z.1 (cm_isSection l (nI (j))) (va_cwS 1 hts gX6_blow_X6_isSection rfl rfl rfl (by decide +kernel) ⟨by decide, by decide⟩) rfl hl9.1 (Nat.le_of_ble_eq_true rfl) dX6_blow_9 ⟨by decide, by decide⟩ rfl ?_
  refine zn_top (y := 1) (h2) ?_
  refine lv_if_eq (tgt := 19) hx hb dX6_blow_12 (by decide) (fun h => absurd h (by decide)) (fun _ => ?_)
  refine lv_iconst (v := 1) hx hb dX6_blow_15 (by decide) ?_
  refine lv_goto (tgt := 20) hx hb dX6_blow_16 (by decide) ?_
  refine lv_istore (lv' := [(5, .int 1), (0, .ref o), (1, .int (nI (i))), (2, .int (nI (j))), (3, .int 0), (4, .int (fo))]) hx hb dX6_blow_20 hl9 (by decide) rfl (fun sl9 hl9 => ?_)
  refine lv_aload_n hx hb dX6_blow_22 rfl (lv_at hl9 1 rfl) ?_
  refine lv_iload hx hb dX6_blow_23 (lv_at hl9 0 rfl) ?_
  refine lv_iload_n hx hb dX6_blow_25 rfl (lv_at hl9 4 rfl) ?_
  refine lv_iconst (v := 0) hx hb dX6_blow_26 (by decide) ?_
  refine lv_iconst (v := 1) hx hb dX6_blow_27 (by decide) ?_
  refine z_callSi (As := [.int 0, .int 0, .int 1]) (rest := [.int 1, .ref o]) Z.1 (cm_in l (0) (0) (1)) (va_cwS 3 hts gX6_blow_X6_in rfl rfl rfl (by decide +kernel) ⟨by decide, by decide⟩) rfl hl9.1 (Nat.le_of_ble_eq_true rfl) dX6_blow_28 ⟨by decide, by decide⟩ rfl ?_
  refine zn_top (y := 1) (rfl) ?_
  refine lv_if_eq (tgt := 49) hx hb dX6_blow_31 (by decide) (fun h => absurd h (by decide)) (fun _ => ?_)
  refine lv_iload hx hb dX6_blow_34 (lv_at hl9 5 rfl) ?_
  refine lv_iconst (v := 1) hx hb dX6_blow_36 (by decide) ?_
  refine lv_bipush (v := 20) hx hb dX6_blow_37 (by decide) ?_
  refine z_callSi (As := [.int (fo), .int 1, .int 20]) (rest := [.int 1, .ref o]) Z.1 (cm_in l (fo) (1) (20)) (va_cwS 3 hts gX6_blow_X6_in rfl rfl rfl (by decide +kernel) ⟨by decide, by decide⟩) rfl hl9.1 (Nat.le_of_ble_eq_true rfl) dX6_blow_39 ⟨by decide, by decide⟩ rfl ?_
  refine zn_top (y := 1) (h4) ?_
  refine lv_if_eq (tgt := 49) hx hb dX6_blow_42 (by decide) (fun h => absurd h (by decide)) (fun _ => ?_)
  refine lv_iconst (v := 1) hx hb dX6_blow_45 (by decide) ?_
  refine lv_goto (tgt := 50) hx hb dX6_blow_46 (by decide) ?_
  refine lv_iload hx hb dX6_blow_50 (lv_at hl9 0 rfl) ?_
  refine lv_if_eq (tgt := 77) hx hb dX6_blow_52 (by decide) (fun h => absurd h (by decide)) (fun _ => ?_)
  refine lv_aload_n hx hb dX6_blow_55 rfl (lv_at hl9 1 rfl) ?_
  refine z_getf Z Mz9 hin6 0 rfl rfl 14 (by decide) L46 rfl (v := .ref (ad 14)) rfl dX6_blow_56 ?_
  refine lv_iload hx hb dX6_blow_59 (lv_at hl9 0 rfl) ?_
  refine lv_if_eq (tgt := 68) hx hb dX6_blow_61 (by decide) (fun h => absurd h (by decide)) (fun _ => ?_)
  refine lv_iload_n hx hb dX6_blow_64 rfl (lv_at hl9 2 rfl) ?_
  refine lv_goto (tgt := 69) hx hb dX6_blow_65 (by decide) ?_
  refine z_zald Z Mz9 13 (h0 := ad 14) (n := 12) (f := σ 14) rfl (j := i) (by omega) (by decide) dX6_blow_69 ?_
  refine zn_top (y := 0) (h14) ?_
  refine lv_if_ne (tgt := 77) hx hb dX6_blow_70 (by decide) (fun h => absurd h (by decide)) (fun _ => ?_)
  refine lv_iconst (v := 1) hx hb dX6_blow_73 (by decide) ?_
  refine lv_goto (tgt := 78) hx hb dX6_blow_74 (by decide) ?_
  refine z_callAi (As := [.int 1, .int 1, .int 1]) (rest := []) (rv := if gth (1) (1) (1) = 0 then 1 else 0) (wc' := mW o ad T (upS σ 31 (fun _ => 0))) Z Mz9 (cm_goes l D T o ad (σ) (1) (1) (1)) (cwV 3 hts gX6_blow_X6_goes rfl rfl rfl (by decide +kernel) ⟨by decide, by decide⟩) (va_recv Z.2.1 Mz9.1 (ci := 7) (q0 := 0) rfl rfl) rfl hl9.1 (Nat.le_of_ble_eq_true rfl) dX6_blow_78 ⟨by decide, by decide⟩ rfl (fun Hp9 lc9 Mz9 => ?_)
  refine zn_top (y := 1) (by decide) ?_
  refine lv_if_ne (tgt := 86) hx hb dX6_blow_81 (by decide) (fun _ => ?_) (fun h => absurd h (by decide))
  refine lv_aload_n hx hb dX6_blow_86 rfl (lv_at hl9 1 rfl) ?_
  refine z_getf Z Mz9 hin6 0 rfl rfl 10 (by decide) L34 rfl (v := .ref (ad 10)) rfl dX6_blow_87 ?_
  refine lv_iload_n hx hb dX6_blow_90 rfl (lv_at hl9 2 rfl) ?_
  refine z_iald Z Mz9 9 (h0 := ad 10) (n := 12) (f := σ 10) rfl (j := i) (by omega) (by decide) dX6_blow_91 ?_
  refine lv_sipush (v := 700) hx hb dX6_blow_92 (by decide) ?_
  refine lv_icmp_ge (tgt := 107) hx hb dX6_blow_95 (by decide) (fun h => absurd h (Int32.not_le.mpr h10)) (fun _ => ?_)
  refine lv_aload_n hx hb dX6_blow_98 rfl (lv_at hl9 1 rfl) ?_
  refine z_getf Z Mz9 hin6 0 rfl rfl 14 (by decide) L46 rfl (v := .ref (ad 14)) rfl dX6_blow_99 ?_
  refine lv_iload_n hx hb dX6_blow_102 rfl (lv_at hl9 2 rfl) ?_
  refine lv_iconst (v := 1) hx hb dX6_blow_103 (by decide) ?_
  refine z_zast Z Mz9 13 (h0 := ad 14) (n := 12) (f := σ 14) rfl (j := i) (x := 1) (by omega) (by decide) (hx1 := by decide) (ws' := mW o ad T (upS (upS σ 14 (upd (σ 14) i 1)) 31 (fun _ => 0))) rfl dX6_blow_104 (fun Hp9 lc9 Mz9 => ?_)
  refine lv_iconst (v := (-1)) hx hb dX6_blow_105 (by decide) ?_
  exact hret _ _ _ _ _ sl9 _ _ Mz9 (rfl) (rfl) (rfl) (Nat.le_refl _) (Nat.le_refl _) dX6_blow_106
set_option maxHeartbeats 4000000 in
set_option maxRecDepth 100000 in
theorem cm_blow_ok0 (l : Launch) (D : va_G) (T : Nat → ClassId) (o : Nat) (ad : Nat → Nat) (σ : Nat → Nat → Int32) (i j : Nat) (fo : Int32) (hi : i < 12) (hj : j < 8) (h1 : bin (nI i) 0 (σ 5 0 - 1) = 1) (h2 : bin (nI j) 0 7 = 1) (h4 : bin fo 1 20 = 1) (h14 : σ 14 i = 0) (sk co gr : Int32) (h10 : ¬ σ 10 i < 700) (h9 : σ 9 i = sk) (hco : σ 10 i = co) (h11 : σ 11 i = gr) : ZI l yX6_blow wsX6_blow (zrm 2 43) D T (mW o ad T σ) (mW o ad T (upS (upS (upS (upS (upS (upS σ 7 ((blA (σ 7) (8 * i + j) (8 * i + nbr j) (imin fo (σ 7 (8 * i + j) - 1))))) 9 (upd (σ 9) i (clS sk))) 10 (upd (σ 10) i (wrm (clS sk) co))) 11 (upd (σ 11) i (grv gr fo co))) 13 (upd (σ 13) i (σ 13 i + lapv ((blA (σ 7) (8 * i + j) (8 * i + nbr j) (imin fo (σ 7 (8 * i + j) - 1))) (8 * i + j)) ((blA (σ 7) (8 * i + j) (8 * i + nbr j) (imin fo (σ 7 (8 * i + j) - 1))) (8 * i + nbr j))))) 31 (fun _ => 0))) [.ref o, .int (nI (i)), .int (nI (j)), .int 0, .int (fo)] (imin fo (σ 7 (8 * i + j) - 1)) 0 0 := by
  refine z_inI (cc := cX6_blow) (maxL := 11) (rt := .int) (by decide +kernel) rfl (Nat.le_of_ble_eq_true rfl) ?_
  intro p e s m args below meth c sl9 A Q Z hnm Mz9 hl9 hret
  have Z : zC p s m args c cX6_blow 11 RX6 wsX6_blow D T A := Z
  have hx := Z.1.1
  have hb := Z.1.2.1
  have hts := Z.1.2.2.2.2
  have hin6 : ∀ w ∈ wsX60, w ∈ wsX6_blow := fun w h => List.mem_cons_of_mem _ (List.mem_append_right _ h)
  have hH0 : s.heap = s.heap := rfl
  have L46 := hts (.fieldLink RX6 46 "AnvilHouseModel" "hasCrack" "[Z") (by decide +kernel)
  have L34 := hts (.fieldLink RX6 34 "AnvilHouseModel" "core" "[I") (by decide +kernel)
  have L25 := hts (.fieldLink RX6 25 "AnvilHouseModel" "areas" "[I") (by decide +kernel)
  have L43 := hts (.fieldLink RX6 43 "AnvilHouseModel" "laps" "[I") (by decide +kernel)
  have L37 := hts (.fieldLink RX6 37 "AnvilHouseModel" "grain" "[I") (by decide +kernel)
  have hl9 : lv_has sl9 11 [(0, .ref o), (1, .int (nI (i))), (2, .int (nI (j))), (3, .int 0), (4, .int (fo))] := hl9
  have hnb := nbr_lt hj
  refine lv_aload_n hx hb dX6_blow_0 rfl (lv_at hl9 0 rfl) ?_
  refine lv_iload_n hx hb dX6_blow_1 rfl (lv_at hl9 1 rfl) ?_
  refine z_callAi (As := [.int (nI (i))]) (rest := []) (rv := bin (nI (i)) 0 (σ 5 0 - 1)) (wc' := mW o ad T σ) Z Mz9 (cm_isBillet l D T o ad (σ) (nI (i))) (cwV 1 hts gX6_blow_X6_isBillet rfl rfl rfl (by decide +kernel) ⟨by decide, by decide⟩) (va_recv Z.2.1 Mz9.1 (ci := 7) (q0 := 0) rfl rfl) rfl hl9.1 (Nat.le_of_ble_eq_true rfl) dX6_blow_2 ⟨by decide, by decide⟩ rfl (fun Hp9 lc9 Mz9 => ?_)
  refine zn_top (y := 1) (h1) ?_
  refine lv_if_eq (tgt := 19) hx hb dX6_blow_5 (by decide) (fun h => absurd h (by decide)) (fun _ => ?_)
  refine lv_iload_n hx hb dX6_blow_8 rfl (lv_at hl9 2 rfl) ?_
  refine z_callSi (As := [.int (nI (j))]) (rest := []) Z.1 (cm_isSection l (nI (j))) (va_cwS 1 hts gX6_blow_X6_isSection rfl rfl rfl (by decide +kernel) ⟨by decide, by decide⟩) rfl hl9.1 (Nat.le_of_ble_eq_true rfl) dX6_blow_9 ⟨by decide, by decide⟩ rfl ?_
  refine zn_top (y := 1) (h2) ?_
  refine lv_if_eq (tgt := 19) hx hb dX6_blow_12 (by decide) (fun h => absurd h (by decide)) (fun _ => ?_)
  refine lv_iconst (v := 1) hx hb dX6_blow_15 (by decide) ?_
  refine lv_goto (tgt := 20) hx hb dX6_blow_16 (by decide) ?_
  refine lv_istore (lv' := [(5, .int 1), (0, .ref o), (1, .int (nI (i))), (2, .int (nI (j))), (3, .int 0), (4, .int (fo))]) hx hb dX6_blow_20 hl9 (by decide) rfl (fun sl9 hl9 => ?_)
  refine lv_aload_n hx hb dX6_blow_22 rfl (lv_at hl9 1 rfl) ?_
  refine lv_iload hx hb dX6_blow_23 (lv_at hl9 0 rfl) ?_
  refine lv_iload_n hx hb dX6_blow_25 rfl (lv_at hl9 4 rfl) ?_
  refine lv_iconst (v := 0) hx hb dX6_blow_26 (by decide) ?_
  refine lv_iconst (v := 1) hx hb dX6_blow_27 (by decide) ?_
  refine z_callSi (As := [.int 0, .int 0, .int 1]) (rest := [.int 1, .ref o]) Z.1 (cm_in l (0) (0) (1)) (va_cwS 3 hts gX6_blow_X6_in rfl rfl rfl (by decide +kernel) ⟨by decide, by decide⟩) rfl hl9.1 (Nat.le_of_ble_eq_true rfl) dX6_blow_28 ⟨by decide, by decide⟩ rfl ?_
  refine zn_top (y := 1) (rfl) ?_
  refine lv_if_eq (tgt := 49) hx hb dX6_blow_31 (by decide) (fun h => absurd h (by decide)) (fun _ => ?_)
  refine lv_iload hx hb dX6_blow_34 (lv_at hl9 5 rfl) ?_
  refine lv_iconst (v := 1) hx hb dX6_blow_36 (by decide) ?_
  refine lv_bipush (v := 20) hx hb dX6_blow_37 (by decide) ?_
  refine z_callSi (As := [.int (fo), .int 1, .int 20]) (rest := [.int 1, .ref o]) Z.1 (cm_in l (fo) (1) (20)) (va_cwS 3 hts gX6_blow_X6_in rfl rfl rfl (by decide +kernel) ⟨by decide, by decide⟩) rfl hl9.1 (Nat.le_of_ble_eq_true rfl) dX6_blow_39 ⟨by decide, by decide⟩ rfl ?_
  refine zn_top (y := 1) (h4) ?_
  refine lv_if_eq (tgt := 49) hx hb dX6_blow_42 (by decide) (fun h => absurd h (by decide)) (fun _ => ?_)
  refine lv_iconst (v := 1) hx hb dX6_blow_45 (by decide) ?_
  refine lv_goto (tgt := 50) hx hb dX6_blow_46 (by decide) ?_
  refine lv_iload hx hb dX6_blow_50 (lv_at hl9 0 rfl) ?_
  refine lv_if_eq (tgt := 77) hx hb dX6_blow_52 (by decide) (fun h => absurd h (by decide)) (fun _ => ?_)
  refine lv_aload_n hx hb dX6_blow_55 rfl (lv_at hl9 1 rfl) ?_
  refine z_getf Z Mz9 hin6 0 rfl rfl 14 (by decide) L46 rfl (v := .ref (ad 14)) rfl dX6_blow_56 ?_
  refine lv_iload hx hb dX6_blow_59 (lv_at hl9 0 rfl) ?_
  refine lv_if_eq (tgt := 68) hx hb dX6_blow_61 (by decide) (fun h => absurd h (by decide)) (fun _ => ?_)
  refine lv_iload_n hx hb dX6_blow_64 rfl (lv_at hl9 2 rfl) ?_
  refine lv_goto (tgt := 69) hx hb dX6_blow_65 (by decide) ?_
  refine z_zald Z Mz9 13 (h0 := ad 14) (n := 12) (f := σ 14) rfl (j := i) (by omega) (by decide) dX6_blow_69 ?_
  refine zn_top (y := 0) (h14) ?_
  refine lv_if_ne (tgt := 77) hx hb dX6_blow_70 (by decide) (fun h => absurd h (by decide)) (fun _ => ?_)
  refine lv_iconst (v := 1) hx hb dX6_blow_73 (by decide) ?_
  refine lv_goto (tgt := 78) hx hb dX6_blow_74 (by decide) ?_
  refine z_callAi (As := [.int 1, .int 1, .int 1]) (rest := []) (rv := if gth (1) (1) (1) = 0 then 1 else 0) (wc' := mW o ad T (upS σ 31 (fun _ => 0))) Z Mz9 (cm_goes l D T o ad (σ) (1) (1) (1)) (cwV 3 hts gX6_blow_X6_goes rfl rfl rfl (by decide +kernel) ⟨by decide, by decide⟩) (va_recv Z.2.1 Mz9.1 (ci := 7) (q0 := 0) rfl rfl) rfl hl9.1 (Nat.le_of_ble_eq_true rfl) dX6_blow_78 ⟨by decide, by decide⟩ rfl (fun Hp9 lc9 Mz9 => ?_)
  refine zn_top (y := 1) (by decide) ?_
  refine lv_if_ne (tgt := 86) hx hb dX6_blow_81 (by decide) (fun _ => ?_) (fun h => absurd h (by decide))
  refine lv_aload_n hx hb dX6_blow_86 rfl (lv_at hl9 1 rfl) ?_
  refine z_getf Z Mz9 hin6 0 rfl rfl 10 (by decide) L34 rfl (v := .ref (ad 10)) rfl dX6_blow_87 ?_
  refine lv_iload_n hx hb dX6_blow_90 rfl (lv_at hl9 2 rfl) ?_
  refine z_iald Z Mz9 9 (h0 := ad 10) (n := 12) (f := σ 10) rfl (j := i) (by omega) (by decide) dX6_blow_91 ?_
  refine zn_top (y := co) (hco) ?_
  refine lv_sipush (v := 700) hx hb dX6_blow_92 (by decide) ?_
  refine lv_icmp_ge (tgt := 107) hx hb dX6_blow_95 (by decide) (fun _ => ?_) (fun h => absurd h (fun h => h (Int32.not_lt.mp (hco ▸ h10))))
  refine lv_bipush (v := 8) hx hb dX6_blow_107 (by decide) ?_
  refine lv_iload_n hx hb dX6_blow_109 rfl (lv_at hl9 2 rfl) ?_
  refine zn_imul (a := 8) (b := i) hx hb dX6_blow_110 ?_
  refine lv_iload_n hx hb dX6_blow_111 rfl (lv_at hl9 3 rfl) ?_
  refine zn_iadd (a := 8 * i) (b := j) hx hb dX6_blow_112 ?_
  refine lv_istore (lv' := [(6, .int (nI ((8 * i) + j))), (5, .int 1), (0, .ref o), (1, .int (nI (i))), (2, .int (nI (j))), (3, .int 0), (4, .int (fo))]) hx hb dX6_blow_113 hl9 (by decide) rfl (fun sl9 hl9 => ?_)
  refine lv_bipush (v := 8) hx hb dX6_blow_115 (by decide) ?_
  refine lv_iload_n hx hb dX6_blow_117 rfl (lv_at hl9 3 rfl) ?_
  refine zn_imul (a := 8) (b := i) hx hb dX6_blow_118 ?_
  refine lv_iload_n hx hb dX6_blow_119 rfl (lv_at hl9 4 rfl) ?_
  refine z_callSi (As := [.int (nI (j))]) (rest := [.int (nI (8 * i))]) Z.1 (cm_neighbour l (j) (by omega)) (va_cwS 1 hts gX6_blow_X6_neighbour rfl rfl rfl (by decide +kernel) ⟨by decide, by decide⟩) rfl hl9.1 (Nat.le_of_ble_eq_true rfl) dX6_blow_120 ⟨by decide, by decide⟩ rfl ?_
  refine zn_iadd (a := 8 * i) (b := nbr (j)) hx hb dX6_blow_123 ?_
  refine lv_istore (lv' := [(7, .int (nI ((8 * i) + (nbr (j))))), (6, .int (nI ((8 * i) + j))), (5, .int 1), (0, .ref o), (1, .int (nI (i))), (2, .int (nI (j))), (3, .int 0), (4, .int (fo))]) hx hb dX6_blow_124 hl9 (by decide) rfl (fun sl9 hl9 => ?_)
  refine lv_iload_n hx hb dX6_blow_126 rfl (lv_at hl9 6 rfl) ?_
  refine lv_if_ne (tgt := 135) hx hb dX6_blow_127 (by decide) (fun h => absurd h (by decide)) (fun _ => ?_)
  refine lv_iload hx hb dX6_blow_130 (lv_at hl9 1 rfl) ?_
  refine lv_goto (tgt := 137) hx hb dX6_blow_132 (by decide) ?_
  refine lv_istore (lv' := [(8, .int (nI ((8 * i) + j))), (7, .int (nI ((8 * i) + (nbr (j))))), (6, .int (nI ((8 * i) + j))), (5, .int 1), (0, .ref o), (1, .int (nI (i))), (2, .int (nI (j))), (3, .int 0), (4, .int (fo))]) hx hb dX6_blow_137 hl9 (by decide) rfl (fun sl9 hl9 => ?_)
  refine lv_iload_n hx hb dX6_blow_139 rfl (lv_at hl9 7 rfl) ?_
  refine lv_if_ne (tgt := 148) hx hb dX6_blow_140 (by decide) (fun h => absurd h (by decide)) (fun _ => ?_)
  refine lv_iload hx hb dX6_blow_143 (lv_at hl9 1 rfl) ?_
  refine lv_goto (tgt := 150) hx hb dX6_blow_145 (by decide) ?_
  refine lv_istore (lv' := [(9, .int (nI ((8 * i) + (nbr (j))))), (8, .int (nI ((8 * i) + j))), (7, .int (nI ((8 * i) + (nbr (j))))), (6, .int (nI ((8 * i) + j))), (5, .int 1), (0, .ref o), (1, .int (nI (i))), (2, .int (nI (j))), (3, .int 0), (4, .int (fo))]) hx hb dX6_blow_150 hl9 (by decide) rfl (fun sl9 hl9 => ?_)
  refine lv_iload hx hb dX6_blow_152 (lv_at hl9 9 rfl) ?_
  refine lv_aload_n hx hb dX6_blow_154 rfl (lv_at hl9 5 rfl) ?_
  refine z_getf Z Mz9 hin6 0 rfl rfl 7 (by decide) L25 rfl (v := .ref (ad 7)) rfl dX6_blow_155 ?_
  refine lv_iload hx hb dX6_blow_158 (lv_at hl9 1 rfl) ?_
  refine z_iald Z Mz9 6 (h0 := ad 7) (n := 96) (f := σ 7) rfl (j := (8 * i) + j) (by omega) (by decide) dX6_blow_160 ?_
  refine lv_iconst (v := 1) hx hb dX6_blow_161 (by decide) ?_
  refine lv_isub hx hb dX6_blow_162 ?_
  refine z_callSi (As := [.int (fo), .int (((σ 7) ((8 * i) + j)) - 1)]) (rest := []) Z.1 (cm_least l (fo) (((σ 7) ((8 * i) + j)) - 1)) (va_cwS 2 hts gX6_blow_X6_least rfl rfl rfl (by decide +kernel) ⟨by decide, by decide⟩) rfl hl9.1 (Nat.le_of_ble_eq_true rfl) dX6_blow_163 ⟨by decide, by decide⟩ rfl ?_
  refine lv_istore (lv' := [(10, .int (imin (fo) (((σ 7) ((8 * i) + j)) - 1))), (9, .int (nI ((8 * i) + (nbr (j))))), (8, .int (nI ((8 * i) + j))), (7, .int (nI ((8 * i) + (nbr (j))))), (6, .int (nI ((8 * i) + j))), (5, .int 1), (0, .ref o), (1, .int (nI (i))), (2, .int (nI (j))), (3, .int 0), (4, .int (fo))]) hx hb dX6_blow_166 hl9 (by decide) rfl (fun sl9 hl9 => ?_)
  refine lv_aload_n hx hb dX6_blow_168 rfl (lv_at hl9 6 rfl) ?_
  refine z_getf Z Mz9 hin6 0 rfl rfl 7 (by decide) L25 rfl (v := .ref (ad 7)) rfl dX6_blow_169 ?_
  refine lv_iload hx hb dX6_blow_172 (lv_at hl9 2 rfl) ?_
  refine lv_dup2_11 hx hb dX6_blow_174 rfl rfl ?_
  refine z_iald Z Mz9 6 (h0 := ad 7) (n := 96) (f := σ 7) rfl (j := (8 * i) + j) (by omega) (by decide) dX6_blow_175 ?_
  refine lv_iload hx hb dX6_blow_176 (lv_at hl9 0 rfl) ?_
  refine lv_isub hx hb dX6_blow_178 ?_
  refine z_iast Z Mz9 6 (h0 := ad 7) (n := 96) (f := σ 7) rfl (j := (8 * i) + j) (x := ((σ 7) ((8 * i) + j)) - (imin (fo) (((σ 7) ((8 * i) + j)) - 1))) (by omega) (by decide) (ws' := mW o ad T (upS (upS σ 7 (upd (σ 7) ((8 * i) + j) (((σ 7) ((8 * i) + j)) - (imin (fo) (((σ 7) ((8 * i) + j)) - 1))))) 31 (fun _ => 0))) rfl dX6_blow_179 (fun Hp9 lc9 Mz9 => ?_)
  refine lv_aload_n hx hb dX6_blow_180 rfl (lv_at hl9 6 rfl) ?_
  refine z_getf Z Mz9 hin6 0 rfl rfl 7 (by decide) L25 rfl (v := .ref (ad 7)) rfl dX6_blow_181 ?_
  refine lv_iload hx hb dX6_blow_184 (lv_at hl9 1 rfl) ?_
  refine lv_dup2_11 hx hb dX6_blow_186 rfl rfl ?_
  refine z_iald Z Mz9 6 (h0 := ad 7) (n := 96) (f := upd (σ 7) ((8 * i) + j) (((σ 7) ((8 * i) + j)) - (imin (fo) (((σ 7) ((8 * i) + j)) - 1)))) rfl (j := (8 * i) + (nbr (j))) (by omega) (by decide) dX6_blow_187 ?_
  refine lv_iload hx hb dX6_blow_188 (lv_at hl9 0 rfl) ?_
  refine lv_iadd hx hb dX6_blow_190 ?_
  refine z_iast Z Mz9 6 (h0 := ad 7) (n := 96) (f := upd (σ 7) ((8 * i) + j) (((σ 7) ((8 * i) + j)) - (imin (fo) (((σ 7) ((8 * i) + j)) - 1)))) rfl (j := (8 * i) + (nbr (j))) (x := ((upd (σ 7) ((8 * i) + j) (((σ 7) ((8 * i) + j)) - (imin (fo) (((σ 7) ((8 * i) + j)) - 1)))) ((8 * i) + (nbr (j)))) + (imin (fo) (((σ 7) ((8 * i) + j)) - 1))) (by omega) (by decide) (ws' := mW o ad T (upS (upS σ 7 (upd (upd (σ 7) ((8 * i) + j) (((σ 7) ((8 * i) + j)) - (imin (fo) (((σ 7) ((8 * i) + j)) - 1)))) ((8 * i) + (nbr (j))) (((upd (σ 7) ((8 * i) + j) (((σ 7) ((8 * i) + j)) - (imin (fo) (((σ 7) ((8 * i) + j)) - 1)))) ((8 * i) + (nbr (j)))) + (imin (fo) (((σ 7) ((8 * i) + j)) - 1))))) 31 (fun _ => 0))) rfl dX6_blow_191 (fun Hp9 lc9 Mz9 => ?_)
  have Mz9 : zM D A s.heap (mW o ad T (upS (upS σ 7 ((blA (σ 7) (8 * i + j) (8 * i + nbr j) (imin fo (σ 7 (8 * i + j) - 1))))) 31 (fun _ => 0))) _ _ := zM_w (by rfl) Mz9
  refine lv_aload_n hx hb dX6_blow_192 rfl (lv_at hl9 6 rfl) ?_
  refine z_getf Z Mz9 hin6 0 rfl rfl 13 (by decide) L43 rfl (v := .ref (ad 13)) rfl dX6_blow_193 ?_
  refine lv_iload_n hx hb dX6_blow_196 rfl (lv_at hl9 7 rfl) ?_
  refine lv_dup2_11 hx hb dX6_blow_197 rfl rfl ?_
  refine z_iald Z Mz9 12 (h0 := ad 13) (n := 12) (f := σ 13) rfl (j := i) (by omega) (by decide) dX6_blow_198 ?_
  refine lv_aload_n hx hb dX6_blow_199 rfl (lv_at hl9 6 rfl) ?_
  refine z_getf Z Mz9 hin6 0 rfl rfl 7 (by decide) L25 rfl (v := .ref (ad 7)) rfl dX6_blow_200 ?_
  refine lv_iload hx hb dX6_blow_203 (lv_at hl9 4 rfl) ?_
  refine z_iald Z Mz9 6 (h0 := ad 7) (n := 96) (f := (blA (σ 7) (8 * i + j) (8 * i + nbr j) (imin fo (σ 7 (8 * i + j) - 1)))) rfl (j := (8 * i) + j) (by omega) (by decide) dX6_blow_205 ?_
  refine lv_iconst (v := 3) hx hb dX6_blow_206 (by decide) ?_
  refine lv_aload_n hx hb dX6_blow_207 rfl (lv_at hl9 6 rfl) ?_
  refine z_getf Z Mz9 hin6 0 rfl rfl 7 (by decide) L25 rfl (v := .ref (ad 7)) rfl dX6_blow_208 ?_
  refine lv_iload hx hb dX6_blow_211 (lv_at hl9 3 rfl) ?_
  refine z_iald Z Mz9 6 (h0 := ad 7) (n := 96) (f := (blA (σ 7) (8 * i + j) (8 * i + nbr j) (imin fo (σ 7 (8 * i + j) - 1)))) rfl (j := (8 * i) + (nbr (j))) (by omega) (by decide) dX6_blow_213 ?_
  refine lv_imul hx hb dX6_blow_214 ?_
  refine lv_icmp_gt (tgt := 237) hx hb dX6_blow_215 (by decide) (fun c_1 => ?_) (fun c_1 => ?_)
  ·
    refine lv_iconst (v := 1) hx hb dX6_blow_237 (by decide) ?_
    refine lv_goto (tgt := 242) hx hb dX6_blow_238 (by decide) ?_
    refine lv_iadd hx hb dX6_blow_242 ?_
    refine z_iast Z Mz9 12 (h0 := ad 13) (n := 12) (f := σ 13) rfl (j := i) (x := ((σ 13) i) + 1) (by omega) (by decide) (ws' := mW o ad T (upS (upS (upS σ 7 ((blA (σ 7) (8 * i + j) (8 * i + nbr j) (imin fo (σ 7 (8 * i + j) - 1))))) 13 (upd (σ 13) i (((σ 13) i) + 1))) 31 (fun _ => 0))) rfl dX6_blow_243 (fun Hp9 lc9 Mz9 => ?_)
    refine lv_aload_n hx hb dX6_blow_244 rfl (lv_at hl9 6 rfl) ?_
    refine z_getf Z Mz9 hin6 0 rfl rfl 10 (by decide) L34 rfl (v := .ref (ad 10)) rfl dX6_blow_245 ?_
    refine lv_iload_n hx hb dX6_blow_248 rfl (lv_at hl9 7 rfl) ?_
    refine z_iald Z Mz9 9 (h0 := ad 10) (n := 12) (f := σ 10) rfl (j := i) (by omega) (by decide) dX6_blow_249 ?_
    refine zn_top (y := co) (hco) ?_
    refine lv_sipush (v := 900) hx hb dX6_blow_250 (by decide) ?_
    refine lv_icmp_lt (tgt := 288) hx hb dX6_blow_253 (by decide) (fun c_2 => ?_) (fun c_2 => ?_)
    ·
      refine lv_aload_n hx hb dX6_blow_288 rfl (lv_at hl9 6 rfl) ?_
      refine lv_iload_n hx hb dX6_blow_289 rfl (lv_at hl9 7 rfl) ?_
      refine z_callAv (As := [.int (nI (i))]) (rest := []) (wc' := mW o ad T (upS (upS (upS (upS (upS σ 7 ((blA (σ 7) (8 * i + j) (8 * i + nbr j) (imin fo (σ 7 (8 * i + j) - 1))))) 9 (upd (σ 9) i (clS (sk)))) 10 (upd (σ 10) i (wrm (clS (sk)) (co)))) 13 (upd (σ 13) i (((σ 13) i) + 1))) 31 (fun _ => 0))) Z Mz9 (cm_cools l D T o ad (upS (upS (upS σ 7 ((blA (σ 7) (8 * i + j) (8 * i + nbr j) (imin fo (σ 7 (8 * i + j) - 1))))) 13 (upd (σ 13) i (((σ 13) i) + 1))) 31 (fun _ => 0)) (i) (sk) (co) (by omega) (h9) (hco)) (cwV 1 hts gX6_blow_X6_cools rfl rfl rfl (by decide +kernel) ⟨by decide, by decide⟩) (va_recv Z.2.1 Mz9.1 (ci := 7) (q0 := 0) rfl rfl) rfl hl9.1 (Nat.le_of_ble_eq_true rfl) dX6_blow_290 ⟨by decide, by decide⟩ rfl (fun Hp9 lc9 Mz9 => ?_)
      refine lv_iload hx hb dX6_blow_293 (lv_at hl9 0 rfl) ?_
      exact hret _ _ _ _ _ sl9 _ _ Mz9 (by simp only [lapv, grv, add_0, if_pos c_1, if_pos c_2, ← h11, upd_id] <;> rfl) (rfl) (rfl) (Nat.le_refl _) (Nat.le_refl _) dX6_blow_295
    ·
      refine lv_aload_n hx hb dX6_blow_256 rfl (lv_at hl9 6 rfl) ?_
      refine z_getf Z Mz9 hin6 0 rfl rfl 11 (by decide) L37 rfl (v := .ref (ad 11)) rfl dX6_blow_257 ?_
      refine lv_iload_n hx hb dX6_blow_260 rfl (lv_at hl9 7 rfl) ?_
      refine lv_aload_n hx hb dX6_blow_261 rfl (lv_at hl9 6 rfl) ?_
      refine z_getf Z Mz9 hin6 0 rfl rfl 11 (by decide) L37 rfl (v := .ref (ad 11)) rfl dX6_blow_262 ?_
      refine lv_iload_n hx hb dX6_blow_265 rfl (lv_at hl9 7 rfl) ?_
      refine z_iald Z Mz9 10 (h0 := ad 11) (n := 12) (f := σ 11) rfl (j := i) (by omega) (by decide) dX6_blow_266 ?_
      refine zn_top (y := gr) (h11) ?_
      refine lv_iload hx hb dX6_blow_267 (lv_at hl9 10 rfl) ?_
      refine lv_isub hx hb dX6_blow_269 ?_
      refine lv_iconst (v := 5) hx hb dX6_blow_270 (by decide) ?_
      refine lv_icmp_ge (tgt := 278) hx hb dX6_blow_271 (by decide) (fun c_3 => ?_) (fun c_3 => ?_)
      ·
        refine lv_aload_n hx hb dX6_blow_278 rfl (lv_at hl9 6 rfl) ?_
        refine z_getf Z Mz9 hin6 0 rfl rfl 11 (by decide) L37 rfl (v := .ref (ad 11)) rfl dX6_blow_279 ?_
        refine lv_iload_n hx hb dX6_blow_282 rfl (lv_at hl9 7 rfl) ?_
        refine z_iald Z Mz9 10 (h0 := ad 11) (n := 12) (f := σ 11) rfl (j := i) (by omega) (by decide) dX6_blow_283 ?_
        refine zn_top (y := gr) (h11) ?_
        refine lv_iload hx hb dX6_blow_284 (lv_at hl9 10 rfl) ?_
        refine lv_isub hx hb dX6_blow_286 ?_
        refine z_iast Z Mz9 10 (h0 := ad 11) (n := 12) (f := σ 11) rfl (j := i) (x := gr - fo) (by omega) (by decide) (ws' := mW o ad T (upS (upS (upS (upS σ 7 ((blA (σ 7) (8 * i + j) (8 * i + nbr j) (imin fo (σ 7 (8 * i + j) - 1))))) 11 (upd (σ 11) i (gr - fo))) 13 (upd (σ 13) i (((σ 13) i) + 1))) 31 (fun _ => 0))) rfl dX6_blow_287 (fun Hp9 lc9 Mz9 => ?_)
        refine lv_aload_n hx hb dX6_blow_288 rfl (lv_at hl9 6 rfl) ?_
        refine lv_iload_n hx hb dX6_blow_289 rfl (lv_at hl9 7 rfl) ?_
        refine z_callAv (As := [.int (nI (i))]) (rest := []) (wc' := mW o ad T (upS (upS (upS (upS (upS (upS σ 7 ((blA (σ 7) (8 * i + j) (8 * i + nbr j) (imin fo (σ 7 (8 * i + j) - 1))))) 9 (upd (σ 9) i (clS (sk)))) 10 (upd (σ 10) i (wrm (clS (sk)) (co)))) 11 (upd (σ 11) i (gr - fo))) 13 (upd (σ 13) i (((σ 13) i) + 1))) 31 (fun _ => 0))) Z Mz9 (cm_cools l D T o ad (upS (upS (upS (upS σ 7 ((blA (σ 7) (8 * i + j) (8 * i + nbr j) (imin fo (σ 7 (8 * i + j) - 1))))) 11 (upd (σ 11) i (gr - fo))) 13 (upd (σ 13) i (((σ 13) i) + 1))) 31 (fun _ => 0)) (i) (sk) (co) (by omega) (h9) (hco)) (cwV 1 hts gX6_blow_X6_cools rfl rfl rfl (by decide +kernel) ⟨by decide, by decide⟩) (va_recv Z.2.1 Mz9.1 (ci := 7) (q0 := 0) rfl rfl) rfl hl9.1 (Nat.le_of_ble_eq_true rfl) dX6_blow_290 ⟨by decide, by decide⟩ rfl (fun Hp9 lc9 Mz9 => ?_)
        refine lv_iload hx hb dX6_blow_293 (lv_at hl9 0 rfl) ?_
        exact hret _ _ _ _ _ sl9 _ _ Mz9 (by simp only [lapv, grv, add_0, if_pos c_1, if_neg c_2, if_neg (Int32.not_lt.mpr c_3)]) (rfl) (rfl) (Nat.le_refl _) (Nat.le_refl _) dX6_blow_295
      ·
        refine lv_iconst (v := 5) hx hb dX6_blow_274 (by decide) ?_
        refine lv_goto (tgt := 287) hx hb dX6_blow_275 (by decide) ?_
        refine z_iast Z Mz9 10 (h0 := ad 11) (n := 12) (f := σ 11) rfl (j := i) (x := 5) (by omega) (by decide) (ws' := mW o ad T (upS (upS (upS (upS σ 7 ((blA (σ 7) (8 * i + j) (8 * i + nbr j) (imin fo (σ 7 (8 * i + j) - 1))))) 11 (upd (σ 11) i 5)) 13 (upd (σ 13) i (((σ 13) i) + 1))) 31 (fun _ => 0))) rfl dX6_blow_287 (fun Hp9 lc9 Mz9 => ?_)
        refine lv_aload_n hx hb dX6_blow_288 rfl (lv_at hl9 6 rfl) ?_
        refine lv_iload_n hx hb dX6_blow_289 rfl (lv_at hl9 7 rfl) ?_
        refine z_callAv (As := [.int (nI (i))]) (rest := []) (wc' := mW o ad T (upS (upS (upS (upS (upS (upS σ 7 ((blA (σ 7) (8 * i + j) (8 * i + nbr j) (imin fo (σ 7 (8 * i + j) - 1))))) 9 (upd (σ 9) i (clS (sk)))) 10 (upd (σ 10) i (wrm (clS (sk)) (co)))) 11 (upd (σ 11) i 5)) 13 (upd (σ 13) i (((σ 13) i) + 1))) 31 (fun _ => 0))) Z Mz9 (cm_cools l D T o ad (upS (upS (upS (upS σ 7 ((blA (σ 7) (8 * i + j) (8 * i + nbr j) (imin fo (σ 7 (8 * i + j) - 1))))) 11 (upd (σ 11) i 5)) 13 (upd (σ 13) i (((σ 13) i) + 1))) 31 (fun _ => 0)) (i) (sk) (co) (by omega) (h9) (hco)) (cwV 1 hts gX6_blow_X6_cools rfl rfl rfl (by decide +kernel) ⟨by decide, by decide⟩) (va_recv Z.2.1 Mz9.1 (ci := 7) (q0 := 0) rfl rfl) rfl hl9.1 (Nat.le_of_ble_eq_true rfl) dX6_blow_290 ⟨by decide, by decide⟩ rfl (fun Hp9 lc9 Mz9 => ?_)
        refine lv_iload hx hb dX6_blow_293 (lv_at hl9 0 rfl) ?_
        exact hret _ _ _ _ _ sl9 _ _ Mz9 (by simp only [lapv, grv, add_0, if_pos c_1, if_neg c_2, if_pos (Int32.not_le.mp c_3)]) (rfl) (rfl) (Nat.le_refl _) (Nat.le_refl _) dX6_blow_295
  ·
    refine lv_aload_n hx hb dX6_blow_218 rfl (lv_at hl9 6 rfl) ?_
    refine z_getf Z Mz9 hin6 0 rfl rfl 7 (by decide) L25 rfl (v := .ref (ad 7)) rfl dX6_blow_219 ?_
    refine lv_iload hx hb dX6_blow_222 (lv_at hl9 3 rfl) ?_
    refine z_iald Z Mz9 6 (h0 := ad 7) (n := 96) (f := (blA (σ 7) (8 * i + j) (8 * i + nbr j) (imin fo (σ 7 (8 * i + j) - 1)))) rfl (j := (8 * i) + (nbr (j))) (by omega) (by decide) dX6_blow_224 ?_
    refine lv_iconst (v := 3) hx hb dX6_blow_225 (by decide) ?_
    refine lv_aload_n hx hb dX6_blow_226 rfl (lv_at hl9 6 rfl) ?_
    refine z_getf Z Mz9 hin6 0 rfl rfl 7 (by decide) L25 rfl (v := .ref (ad 7)) rfl dX6_blow_227 ?_
    refine lv_iload hx hb dX6_blow_230 (lv_at hl9 4 rfl) ?_
    refine z_iald Z Mz9 6 (h0 := ad 7) (n := 96) (f := (blA (σ 7) (8 * i + j) (8 * i + nbr j) (imin fo (σ 7 (8 * i + j) - 1)))) rfl (j := (8 * i) + j) (by omega) (by decide) dX6_blow_232 ?_
    refine lv_imul hx hb dX6_blow_233 ?_
    refine lv_icmp_le (tgt := 241) hx hb dX6_blow_234 (by decide) (fun c_4 => ?_) (fun c_4 => ?_)
    ·
      refine lv_iconst (v := 0) hx hb dX6_blow_241 (by decide) ?_
      refine lv_iadd hx hb dX6_blow_242 ?_
      refine z_iast Z Mz9 12 (h0 := ad 13) (n := 12) (f := σ 13) rfl (j := i) (x := ((σ 13) i) + 0) (by omega) (by decide) (ws' := mW o ad T (upS (upS (upS σ 7 ((blA (σ 7) (8 * i + j) (8 * i + nbr j) (imin fo (σ 7 (8 * i + j) - 1))))) 13 (upd (σ 13) i (((σ 13) i) + 0))) 31 (fun _ => 0))) rfl dX6_blow_243 (fun Hp9 lc9 Mz9 => ?_)
      refine lv_aload_n hx hb dX6_blow_244 rfl (lv_at hl9 6 rfl) ?_
      refine z_getf Z Mz9 hin6 0 rfl rfl 10 (by decide) L34 rfl (v := .ref (ad 10)) rfl dX6_blow_245 ?_
      refine lv_iload_n hx hb dX6_blow_248 rfl (lv_at hl9 7 rfl) ?_
      refine z_iald Z Mz9 9 (h0 := ad 10) (n := 12) (f := σ 10) rfl (j := i) (by omega) (by decide) dX6_blow_249 ?_
      refine zn_top (y := co) (hco) ?_
      refine lv_sipush (v := 900) hx hb dX6_blow_250 (by decide) ?_
      refine lv_icmp_lt (tgt := 288) hx hb dX6_blow_253 (by decide) (fun c_5 => ?_) (fun c_5 => ?_)
      ·
        refine lv_aload_n hx hb dX6_blow_288 rfl (lv_at hl9 6 rfl) ?_
        refine lv_iload_n hx hb dX6_blow_289 rfl (lv_at hl9 7 rfl) ?_
        refine z_callAv (As := [.int (nI (i))]) (rest := []) (wc' := mW o ad T (upS (upS (upS (upS (upS σ 7 ((blA (σ 7) (8 * i + j) (8 * i + nbr j) (imin fo (σ 7 (8 * i + j) - 1))))) 9 (upd (σ 9) i (clS (sk)))) 10 (upd (σ 10) i (wrm (clS (sk)) (co)))) 13 (upd (σ 13) i (((σ 13) i) + 0))) 31 (fun _ => 0))) Z Mz9 (cm_cools l D T o ad (upS (upS (upS σ 7 ((blA (σ 7) (8 * i + j) (8 * i + nbr j) (imin fo (σ 7 (8 * i + j) - 1))))) 13 (upd (σ 13) i (((σ 13) i) + 0))) 31 (fun _ => 0)) (i) (sk) (co) (by omega) (h9) (hco)) (cwV 1 hts gX6_blow_X6_cools rfl rfl rfl (by decide +kernel) ⟨by decide, by decide⟩) (va_recv Z.2.1 Mz9.1 (ci := 7) (q0 := 0) rfl rfl) rfl hl9.1 (Nat.le_of_ble_eq_true rfl) dX6_blow_290 ⟨by decide, by decide⟩ rfl (fun Hp9 lc9 Mz9 => ?_)
        refine lv_iload hx hb dX6_blow_293 (lv_at hl9 0 rfl) ?_
        exact hret _ _ _ _ _ sl9 _ _ Mz9 (by simp only [lapv, grv, add_0, if_neg c_1, if_neg (Int32.not_lt.mpr c_4), if_pos c_5, ← h11, upd_id] <;> rfl) (rfl) (rfl) (Nat.le_refl _) (Nat.le_refl _) dX6_blow_295
      ·
        refine lv_aload_n hx hb dX6_blow_256 rfl (lv_at hl9 6 rfl) ?_
        refine z_getf Z Mz9 hin6 0 rfl rfl 11 (by decide) L37 rfl (v := .ref (ad 11)) rfl dX6_blow_257 ?_
        refine lv_iload_n hx hb dX6_blow_260 rfl (lv_at hl9 7 rfl) ?_
        refine lv_aload_n hx hb dX6_blow_261 rfl (lv_at hl9 6 rfl) ?_
        refine z_getf Z Mz9 hin6 0 rfl rfl 11 (by decide) L37 rfl (v := .ref (ad 11)) rfl dX6_blow_262 ?_
        refine lv_iload_n hx hb dX6_blow_265 rfl (lv_at hl9 7 rfl) ?_
        refine z_iald Z Mz9 10 (h0 := ad 11) (n := 12) (f := σ 11) rfl (j := i) (by omega) (by decide) dX6_blow_266 ?_
        refine zn_top (y := gr) (h11) ?_
        refine lv_iload hx hb dX6_blow_267 (lv_at hl9 10 rfl) ?_
        refine lv_isub hx hb dX6_blow_269 ?_
        refine lv_iconst (v := 5) hx hb dX6_blow_270 (by decide) ?_
        refine lv_icmp_ge (tgt := 278) hx hb dX6_blow_271 (by decide) (fun c_6 => ?_) (fun c_6 => ?_)
        ·
          refine lv_aload_n hx hb dX6_blow_278 rfl (lv_at hl9 6 rfl) ?_
          refine z_getf Z Mz9 hin6 0 rfl rfl 11 (by decide) L37 rfl (v := .ref (ad 11)) rfl dX6_blow_279 ?_
          refine lv_iload_n hx hb dX6_blow_282 rfl (lv_at hl9 7 rfl) ?_
          refine z_iald Z Mz9 10 (h0 := ad 11) (n := 12) (f := σ 11) rfl (j := i) (by omega) (by decide) dX6_blow_283 ?_
          refine zn_top (y := gr) (h11) ?_
          refine lv_iload hx hb dX6_blow_284 (lv_at hl9 10 rfl) ?_
          refine lv_isub hx hb dX6_blow_286 ?_
          refine z_iast Z Mz9 10 (h0 := ad 11) (n := 12) (f := σ 11) rfl (j := i) (x := gr - fo) (by omega) (by decide) (ws' := mW o ad T (upS (upS (upS (upS σ 7 ((blA (σ 7) (8 * i + j) (8 * i + nbr j) (imin fo (σ 7 (8 * i + j) - 1))))) 11 (upd (σ 11) i (gr - fo))) 13 (upd (σ 13) i (((σ 13) i) + 0))) 31 (fun _ => 0))) rfl dX6_blow_287 (fun Hp9 lc9 Mz9 => ?_)
          refine lv_aload_n hx hb dX6_blow_288 rfl (lv_at hl9 6 rfl) ?_
          refine lv_iload_n hx hb dX6_blow_289 rfl (lv_at hl9 7 rfl) ?_
          refine z_callAv (As := [.int (nI (i))]) (rest := []) (wc' := mW o ad T (upS (upS (upS (upS (upS (upS σ 7 ((blA (σ 7) (8 * i + j) (8 * i + nbr j) (imin fo (σ 7 (8 * i + j) - 1))))) 9 (upd (σ 9) i (clS (sk)))) 10 (upd (σ 10) i (wrm (clS (sk)) (co)))) 11 (upd (σ 11) i (gr - fo))) 13 (upd (σ 13) i (((σ 13) i) + 0))) 31 (fun _ => 0))) Z Mz9 (cm_cools l D T o ad (upS (upS (upS (upS σ 7 ((blA (σ 7) (8 * i + j) (8 * i + nbr j) (imin fo (σ 7 (8 * i + j) - 1))))) 11 (upd (σ 11) i (gr - fo))) 13 (upd (σ 13) i (((σ 13) i) + 0))) 31 (fun _ => 0)) (i) (sk) (co) (by omega) (h9) (hco)) (cwV 1 hts gX6_blow_X6_cools rfl rfl rfl (by decide +kernel) ⟨by decide, by decide⟩) (va_recv Z.2.1 Mz9.1 (ci := 7) (q0 := 0) rfl rfl) rfl hl9.1 (Nat.le_of_ble_eq_true rfl) dX6_blow_290 ⟨by decide, by decide⟩ rfl (fun Hp9 lc9 Mz9 => ?_)
          refine lv_iload hx hb dX6_blow_293 (lv_at hl9 0 rfl) ?_
          exact hret _ _ _ _ _ sl9 _ _ Mz9 (by simp only [lapv, grv, add_0, if_neg c_1, if_neg (Int32.not_lt.mpr c_4), if_neg c_5, if_neg (Int32.not_lt.mpr c_6)]) (rfl) (rfl) (Nat.le_refl _) (Nat.le_refl _) dX6_blow_295
        ·
          refine lv_iconst (v := 5) hx hb dX6_blow_274 (by decide) ?_
          refine lv_goto (tgt := 287) hx hb dX6_blow_275 (by decide) ?_
          refine z_iast Z Mz9 10 (h0 := ad 11) (n := 12) (f := σ 11) rfl (j := i) (x := 5) (by omega) (by decide) (ws' := mW o ad T (upS (upS (upS (upS σ 7 ((blA (σ 7) (8 * i + j) (8 * i + nbr j) (imin fo (σ 7 (8 * i + j) - 1))))) 11 (upd (σ 11) i 5)) 13 (upd (σ 13) i (((σ 13) i) + 0))) 31 (fun _ => 0))) rfl dX6_blow_287 (fun Hp9 lc9 Mz9 => ?_)
          refine lv_aload_n hx hb dX6_blow_288 rfl (lv_at hl9 6 rfl) ?_
          refine lv_iload_n hx hb dX6_blow_289 rfl (lv_at hl9 7 rfl) ?_
          refine z_callAv (As := [.int (nI (i))]) (rest := []) (wc' := mW o ad T (upS (upS (upS (upS (upS (upS σ 7 ((blA (σ 7) (8 * i + j) (8 * i + nbr j) (imin fo (σ 7 (8 * i + j) - 1))))) 9 (upd (σ 9) i (clS (sk)))) 10 (upd (σ 10) i (wrm (clS (sk)) (co)))) 11 (upd (σ 11) i 5)) 13 (upd (σ 13) i (((σ 13) i) + 0))) 31 (fun _ => 0))) Z Mz9 (cm_cools l D T o ad (upS (upS (upS (upS σ 7 ((blA (σ 7) (8 * i + j) (8 * i + nbr j) (imin fo (σ 7 (8 * i + j) - 1))))) 11 (upd (σ 11) i 5)) 13 (upd (σ 13) i (((σ 13) i) + 0))) 31 (fun _ => 0)) (i) (sk) (co) (by omega) (h9) (hco)) (cwV 1 hts gX6_blow_X6_cools rfl rfl rfl (by decide +kernel) ⟨by decide, by decide⟩) (va_recv Z.2.1 Mz9.1 (ci := 7) (q0 := 0) rfl rfl) rfl hl9.1 (Nat.le_of_ble_eq_true rfl) dX6_blow_290 ⟨by decide, by decide⟩ rfl (fun Hp9 lc9 Mz9 => ?_)
          refine lv_iload hx hb dX6_blow_293 (lv_at hl9 0 rfl) ?_
          exact hret _ _ _ _ _ sl9 _ _ Mz9 (by simp only [lapv, grv, add_0, if_neg c_1, if_neg (Int32.not_lt.mpr c_4), if_neg c_5, if_pos (Int32.not_le.mp c_6)]) (rfl) (rfl) (Nat.le_refl _) (Nat.le_refl _) dX6_blow_295
    ·
      refine lv_iconst (v := 1) hx hb dX6_blow_237 (by decide) ?_
      refine lv_goto (tgt := 242) hx hb dX6_blow_238 (by decide) ?_
      refine lv_iadd hx hb dX6_blow_242 ?_
      refine z_iast Z Mz9 12 (h0 := ad 13) (n := 12) (f := σ 13) rfl (j := i) (x := ((σ 13) i) + 1) (by omega) (by decide) (ws' := mW o ad T (upS (upS (upS σ 7 ((blA (σ 7) (8 * i + j) (8 * i + nbr j) (imin fo (σ 7 (8 * i + j) - 1))))) 13 (upd (σ 13) i (((σ 13) i) + 1))) 31 (fun _ => 0))) rfl dX6_blow_243 (fun Hp9 lc9 Mz9 => ?_)
      refine lv_aload_n hx hb dX6_blow_244 rfl (lv_at hl9 6 rfl) ?_
      refine z_getf Z Mz9 hin6 0 rfl rfl 10 (by decide) L34 rfl (v := .ref (ad 10)) rfl dX6_blow_245 ?_
      refine lv_iload_n hx hb dX6_blow_248 rfl (lv_at hl9 7 rfl) ?_
      refine z_iald Z Mz9 9 (h0 := ad 10) (n := 12) (f := σ 10) rfl (j := i) (by omega) (by decide) dX6_blow_249 ?_
      refine zn_top (y := co) (hco) ?_
      refine lv_sipush (v := 900) hx hb dX6_blow_250 (by decide) ?_
      refine lv_icmp_lt (tgt := 288) hx hb dX6_blow_253 (by decide) (fun c_7 => ?_) (fun c_7 => ?_)
      ·
        refine lv_aload_n hx hb dX6_blow_288 rfl (lv_at hl9 6 rfl) ?_
        refine lv_iload_n hx hb dX6_blow_289 rfl (lv_at hl9 7 rfl) ?_
        refine z_callAv (As := [.int (nI (i))]) (rest := []) (wc' := mW o ad T (upS (upS (upS (upS (upS σ 7 ((blA (σ 7) (8 * i + j) (8 * i + nbr j) (imin fo (σ 7 (8 * i + j) - 1))))) 9 (upd (σ 9) i (clS (sk)))) 10 (upd (σ 10) i (wrm (clS (sk)) (co)))) 13 (upd (σ 13) i (((σ 13) i) + 1))) 31 (fun _ => 0))) Z Mz9 (cm_cools l D T o ad (upS (upS (upS σ 7 ((blA (σ 7) (8 * i + j) (8 * i + nbr j) (imin fo (σ 7 (8 * i + j) - 1))))) 13 (upd (σ 13) i (((σ 13) i) + 1))) 31 (fun _ => 0)) (i) (sk) (co) (by omega) (h9) (hco)) (cwV 1 hts gX6_blow_X6_cools rfl rfl rfl (by decide +kernel) ⟨by decide, by decide⟩) (va_recv Z.2.1 Mz9.1 (ci := 7) (q0 := 0) rfl rfl) rfl hl9.1 (Nat.le_of_ble_eq_true rfl) dX6_blow_290 ⟨by decide, by decide⟩ rfl (fun Hp9 lc9 Mz9 => ?_)
        refine lv_iload hx hb dX6_blow_293 (lv_at hl9 0 rfl) ?_
        exact hret _ _ _ _ _ sl9 _ _ Mz9 (by simp only [lapv, grv, add_0, if_neg c_1, if_pos (Int32.not_le.mp c_4), if_pos c_7, ← h11, upd_id] <;> rfl) (rfl) (rfl) (Nat.le_refl _) (Nat.le_refl _) dX6_blow_295
      ·
        refine lv_aload_n hx hb dX6_blow_256 rfl (lv_at hl9 6 rfl) ?_
        refine z_getf Z Mz9 hin6 0 rfl rfl 11 (by decide) L37 rfl (v := .ref (ad 11)) rfl dX6_blow_257 ?_
        refine lv_iload_n hx hb dX6_blow_260 rfl (lv_at hl9 7 rfl) ?_
        refine lv_aload_n hx hb dX6_blow_261 rfl (lv_at hl9 6 rfl) ?_
        refine z_getf Z Mz9 hin6 0 rfl rfl 11 (by decide) L37 rfl (v := .ref (ad 11)) rfl dX6_blow_262 ?_
        refine lv_iload_n hx hb dX6_blow_265 rfl (lv_at hl9 7 rfl) ?_
        refine z_iald Z Mz9 10 (h0 := ad 11) (n := 12) (f := σ 11) rfl (j := i) (by omega) (by decide) dX6_blow_266 ?_
        refine zn_top (y := gr) (h11) ?_
        refine lv_iload hx hb dX6_blow_267 (lv_at hl9 10 rfl) ?_
        refine lv_isub hx hb dX6_blow_269 ?_
        refine lv_iconst (v := 5) hx hb dX6_blow_270 (by decide) ?_
        refine lv_icmp_ge (tgt := 278) hx hb dX6_blow_271 (by decide) (fun c_8 => ?_) (fun c_8 => ?_)
        ·
          refine lv_aload_n hx hb dX6_blow_278 rfl (lv_at hl9 6 rfl) ?_
          refine z_getf Z Mz9 hin6 0 rfl rfl 11 (by decide) L37 rfl (v := .ref (ad 11)) rfl dX6_blow_279 ?_
          refine lv_iload_n hx hb dX6_blow_282 rfl (lv_at hl9 7 rfl) ?_
          refine z_iald Z Mz9 10 (h0 := ad 11) (n := 12) (f := σ 11) rfl (j := i) (by omega) (by decide) dX6_blow_283 ?_
          refine zn_top (y := gr) (h11) ?_
          refine lv_iload hx hb dX6_blow_284 (lv_at hl9 10 rfl) ?_
          refine lv_isub hx hb dX6_blow_286 ?_
          refine z_iast Z Mz9 10 (h0 := ad 11) (n := 12) (f := σ 11) rfl (j := i) (x := gr - fo) (by omega) (by decide) (ws' := mW o ad T (upS (upS (upS (upS σ 7 ((blA (σ 7) (8 * i + j) (8 * i + nbr j) (imin fo (σ 7 (8 * i + j) - 1))))) 11 (upd (σ 11) i (gr - fo))) 13 (upd (σ 13) i (((σ 13) i) + 1))) 31 (fun _ => 0))) rfl dX6_blow_287 (fun Hp9 lc9 Mz9 => ?_)
          refine lv_aload_n hx hb dX6_blow_288 rfl (lv_at hl9 6 rfl) ?_
          refine lv_iload_n hx hb dX6_blow_289 rfl (lv_at hl9 7 rfl) ?_
          refine z_callAv (As := [.int (nI (i))]) (rest := []) (wc' := mW o ad T (upS (upS (upS (upS (upS (upS σ 7 ((blA (σ 7) (8 * i + j) (8 * i + nbr j) (imin fo (σ 7 (8 * i + j) - 1))))) 9 (upd (σ 9) i (clS (sk)))) 10 (upd (σ 10) i (wrm (clS (sk)) (co)))) 11 (upd (σ 11) i (gr - fo))) 13 (upd (σ 13) i (((σ 13) i) + 1))) 31 (fun _ => 0))) Z Mz9 (cm_cools l D T o ad (upS (upS (upS (upS σ 7 ((blA (σ 7) (8 * i + j) (8 * i + nbr j) (imin fo (σ 7 (8 * i + j) - 1))))) 11 (upd (σ 11) i (gr - fo))) 13 (upd (σ 13) i (((σ 13) i) + 1))) 31 (fun _ => 0)) (i) (sk) (co) (by omega) (h9) (hco)) (cwV 1 hts gX6_blow_X6_cools rfl rfl rfl (by decide +kernel) ⟨by decide, by decide⟩) (va_recv Z.2.1 Mz9.1 (ci := 7) (q0 := 0) rfl rfl) rfl hl9.1 (Nat.le_of_ble_eq_true rfl) dX6_blow_290 ⟨by decide, by decide⟩ rfl (fun Hp9 lc9 Mz9 => ?_)
          refine lv_iload hx hb dX6_blow_293 (lv_at hl9 0 rfl) ?_
          exact hret _ _ _ _ _ sl9 _ _ Mz9 (by simp only [lapv, grv, add_0, if_neg c_1, if_pos (Int32.not_le.mp c_4), if_neg c_7, if_neg (Int32.not_lt.mpr c_8)]) (rfl) (rfl) (Nat.le_refl _) (Nat.le_refl _) dX6_blow_295
        ·
          refine lv_iconst (v := 5) hx hb dX6_blow_274 (by decide) ?_
          refine lv_goto (tgt := 287) hx hb dX6_blow_275 (by decide) ?_
          refine z_iast Z Mz9 10 (h0 := ad 11) (n := 12) (f := σ 11) rfl (j := i) (x := 5) (by omega) (by decide) (ws' := mW o ad T (upS (upS (upS (upS σ 7 ((blA (σ 7) (8 * i + j) (8 * i + nbr j) (imin fo (σ 7 (8 * i + j) - 1))))) 11 (upd (σ 11) i 5)) 13 (upd (σ 13) i (((σ 13) i) + 1))) 31 (fun _ => 0))) rfl dX6_blow_287 (fun Hp9 lc9 Mz9 => ?_)
          refine lv_aload_n hx hb dX6_blow_288 rfl (lv_at hl9 6 rfl) ?_
          refine lv_iload_n hx hb dX6_blow_289 rfl (lv_at hl9 7 rfl) ?_
          refine z_callAv (As := [.int (nI (i))]) (rest := []) (wc' := mW o ad T (upS (upS (upS (upS (upS (upS σ 7 ((blA (σ 7) (8 * i + j) (8 * i + nbr j) (imin fo (σ 7 (8 * i + j) - 1))))) 9 (upd (σ 9) i (clS (sk)))) 10 (upd (σ 10) i (wrm (clS (sk)) (co)))) 11 (upd (σ 11) i 5)) 13 (upd (σ 13) i (((σ 13) i) + 1))) 31 (fun _ => 0))) Z Mz9 (cm_cools l D T o ad (upS (upS (upS (upS σ 7 ((blA (σ 7) (8 * i + j) (8 * i + nbr j) (imin fo (σ 7 (8 * i + j) - 1))))) 11 (upd (σ 11) i 5)) 13 (upd (σ 13) i (((σ 13) i) + 1))) 31 (fun _ => 0)) (i) (sk) (co) (by omega) (h9) (hco)) (cwV 1 hts gX6_blow_X6_cools rfl rfl rfl (by decide +kernel) ⟨by decide, by decide⟩) (va_recv Z.2.1 Mz9.1 (ci := 7) (q0 := 0) rfl rfl) rfl hl9.1 (Nat.le_of_ble_eq_true rfl) dX6_blow_290 ⟨by decide, by decide⟩ rfl (fun Hp9 lc9 Mz9 => ?_)
          refine lv_iload hx hb dX6_blow_293 (lv_at hl9 0 rfl) ?_
          exact hret _ _ _ _ _ sl9 _ _ Mz9 (by simp only [lapv, grv, add_0, if_neg c_1, if_pos (Int32.not_le.mp c_4), if_neg c_7, if_pos (Int32.not_le.mp c_8)]) (rfl) (rfl) (Nat.le_refl _) (Nat.le_refl _) dX6_blow_295
set_option maxHeartbeats 4000000 in
set_option maxRecDepth 100000 in
theorem cm_blow_crack1 (l : Launch) (D : va_G) (T : Nat → ClassId) (o : Nat) (ad : Nat → Nat) (σ : Nat → Nat → Int32) (i j : Nat) (fo : Int32) (hi : i < 12) (hj : j < 8) (h1 : bin (nI i) 0 (σ 5 0 - 1) = 1) (h2 : bin (nI j) 0 7 = 1) (h4 : bin fo 1 20 = 1) (h14 : σ 14 i = 0) (h10 : σ 10 i < 700) : ZI l yX6_blow wsX6_blow (zrm 2 43) D T (mW o ad T σ) (mW o ad T (upS (upS σ 14 (upd (σ 14) i 1)) 31 (fun _ => 0))) [.ref o, .int (nI (i)), .int (nI (j)), .int 1, .int (fo)] (-1) 0 0 := by
  refine z_inI (cc := cX6_blow) (maxL := 11) (rt := .int) (by decide +kernel) rfl (Nat.le_of_ble_eq_true rfl) ?_
  intro p e s m args below meth c sl9 A Q Z hnm Mz9 hl9 hret
  have Z : zC p s m args c cX6_blow 11 RX6 wsX6_blow D T A := Z
  have hx := Z.1.1
  have hb := Z.1.2.1
  have hts := Z.1.2.2.2.2
  have hin6 : ∀ w ∈ wsX60, w ∈ wsX6_blow := fun w h => List.mem_cons_of_mem _ (List.mem_append_right _ h)
  have hH0 : s.heap = s.heap := rfl
  have L46 := hts (.fieldLink RX6 46 "AnvilHouseModel" "hasCrack" "[Z") (by decide +kernel)
  have L34 := hts (.fieldLink RX6 34 "AnvilHouseModel" "core" "[I") (by decide +kernel)
  have L25 := hts (.fieldLink RX6 25 "AnvilHouseModel" "areas" "[I") (by decide +kernel)
  have L43 := hts (.fieldLink RX6 43 "AnvilHouseModel" "laps" "[I") (by decide +kernel)
  have L37 := hts (.fieldLink RX6 37 "AnvilHouseModel" "grain" "[I") (by decide +kernel)
  have hl9 : lv_has sl9 11 [(0, .ref o), (1, .int (nI (i))), (2, .int (nI (j))), (3, .int 1), (4, .int (fo))] := hl9
  refine lv_aload_n hx hb dX6_blow_0 rfl (lv_at hl9 0 rfl) ?_
  refine lv_iload_n hx hb dX6_blow_1 rfl (lv_at hl9 1 rfl) ?_
  refine z_callAi (As := [.int (nI (i))]) (rest := []) (rv := bin (nI (i)) 0 (σ 5 0 - 1)) (wc' := mW o ad T σ) Z Mz9 (cm_isBillet l D T o ad (σ) (nI (i))) (cwV 1 hts gX6_blow_X6_isBillet rfl rfl rfl (by decide +kernel) ⟨by decide, by decide⟩) (va_recv Z.2.1 Mz9.1 (ci := 7) (q0 := 0) rfl rfl) rfl hl9.1 (Nat.le_of_ble_eq_true rfl) dX6_blow_2 ⟨by decide, by decide⟩ rfl (fun Hp9 lc9 Mz9 => ?_)
  refine zn_top (y := 1) (h1) ?_
  refine lv_if_eq (tgt := 19) hx hb dX6_blow_5 (by decide) (fun h => absurd h (by decide)) (fun _ => ?_)
  refine lv_iload_n hx hb dX6_blow_8 rfl (lv_at hl9 2 rfl) ?_
  refine z_callSi (As := [.int (nI (j))]) (rest := []) Z.1 (cm_isSection l (nI (j))) (va_cwS 1 hts gX6_blow_X6_isSection rfl rfl rfl (by decide +kernel) ⟨by decide, by decide⟩) rfl hl9.1 (Nat.le_of_ble_eq_true rfl) dX6_blow_9 ⟨by decide, by decide⟩ rfl ?_
  refine zn_top (y := 1) (h2) ?_
  refine lv_if_eq (tgt := 19) hx hb dX6_blow_12 (by decide) (fun h => absurd h (by decide)) (fun _ => ?_)
  refine lv_iconst (v := 1) hx hb dX6_blow_15 (by decide) ?_
  refine lv_goto (tgt := 20) hx hb dX6_blow_16 (by decide) ?_
  refine lv_istore (lv' := [(5, .int 1), (0, .ref o), (1, .int (nI (i))), (2, .int (nI (j))), (3, .int 1), (4, .int (fo))]) hx hb dX6_blow_20 hl9 (by decide) rfl (fun sl9 hl9 => ?_)
  refine lv_aload_n hx hb dX6_blow_22 rfl (lv_at hl9 1 rfl) ?_
  refine lv_iload hx hb dX6_blow_23 (lv_at hl9 0 rfl) ?_
  refine lv_iload_n hx hb dX6_blow_25 rfl (lv_at hl9 4 rfl) ?_
  refine lv_iconst (v := 0) hx hb dX6_blow_26 (by decide) ?_
  refine lv_iconst (v := 1) hx hb dX6_blow_27 (by decide) ?_
  refine z_callSi (As := [.int 1, .int 0, .int 1]) (rest := [.int 1, .ref o]) Z.1 (cm_in l (1) (0) (1)) (va_cwS 3 hts gX6_blow_X6_in rfl rfl rfl (by decide +kernel) ⟨by decide, by decide⟩) rfl hl9.1 (Nat.le_of_ble_eq_true rfl) dX6_blow_28 ⟨by decide, by decide⟩ rfl ?_
  refine zn_top (y := 1) (rfl) ?_
  refine lv_if_eq (tgt := 49) hx hb dX6_blow_31 (by decide) (fun h => absurd h (by decide)) (fun _ => ?_)
  refine lv_iload hx hb dX6_blow_34 (lv_at hl9 5 rfl) ?_
  refine lv_iconst (v := 1) hx hb dX6_blow_36 (by decide) ?_
  refine lv_bipush (v := 20) hx hb dX6_blow_37 (by decide) ?_
  refine z_callSi (As := [.int (fo), .int 1, .int 20]) (rest := [.int 1, .ref o]) Z.1 (cm_in l (fo) (1) (20)) (va_cwS 3 hts gX6_blow_X6_in rfl rfl rfl (by decide +kernel) ⟨by decide, by decide⟩) rfl hl9.1 (Nat.le_of_ble_eq_true rfl) dX6_blow_39 ⟨by decide, by decide⟩ rfl ?_
  refine zn_top (y := 1) (h4) ?_
  refine lv_if_eq (tgt := 49) hx hb dX6_blow_42 (by decide) (fun h => absurd h (by decide)) (fun _ => ?_)
  refine lv_iconst (v := 1) hx hb dX6_blow_45 (by decide) ?_
  refine lv_goto (tgt := 50) hx hb dX6_blow_46 (by decide) ?_
  refine lv_iload hx hb dX6_blow_50 (lv_at hl9 0 rfl) ?_
  refine lv_if_eq (tgt := 77) hx hb dX6_blow_52 (by decide) (fun h => absurd h (by decide)) (fun _ => ?_)
  refine lv_aload_n hx hb dX6_blow_55 rfl (lv_at hl9 1 rfl) ?_
  refine z_getf Z Mz9 hin6 0 rfl rfl 14 (by decide) L46 rfl (v := .ref (ad 14)) rfl dX6_blow_56 ?_
  refine lv_iload hx hb dX6_blow_59 (lv_at hl9 0 rfl) ?_
  refine lv_if_eq (tgt := 68) hx hb dX6_blow_61 (by decide) (fun h => absurd h (by decide)) (fun _ => ?_)
  refine lv_iload_n hx hb dX6_blow_64 rfl (lv_at hl9 2 rfl) ?_
  refine lv_goto (tgt := 69) hx hb dX6_blow_65 (by decide) ?_
  refine z_zald Z Mz9 13 (h0 := ad 14) (n := 12) (f := σ 14) rfl (j := i) (by omega) (by decide) dX6_blow_69 ?_
  refine zn_top (y := 0) (h14) ?_
  refine lv_if_ne (tgt := 77) hx hb dX6_blow_70 (by decide) (fun h => absurd h (by decide)) (fun _ => ?_)
  refine lv_iconst (v := 1) hx hb dX6_blow_73 (by decide) ?_
  refine lv_goto (tgt := 78) hx hb dX6_blow_74 (by decide) ?_
  refine z_callAi (As := [.int 1, .int 1, .int 1]) (rest := []) (rv := if gth (1) (1) (1) = 0 then 1 else 0) (wc' := mW o ad T (upS σ 31 (fun _ => 0))) Z Mz9 (cm_goes l D T o ad (σ) (1) (1) (1)) (cwV 3 hts gX6_blow_X6_goes rfl rfl rfl (by decide +kernel) ⟨by decide, by decide⟩) (va_recv Z.2.1 Mz9.1 (ci := 7) (q0 := 0) rfl rfl) rfl hl9.1 (Nat.le_of_ble_eq_true rfl) dX6_blow_78 ⟨by decide, by decide⟩ rfl (fun Hp9 lc9 Mz9 => ?_)
  refine zn_top (y := 1) (by decide) ?_
  refine lv_if_ne (tgt := 86) hx hb dX6_blow_81 (by decide) (fun _ => ?_) (fun h => absurd h (by decide))
  refine lv_aload_n hx hb dX6_blow_86 rfl (lv_at hl9 1 rfl) ?_
  refine z_getf Z Mz9 hin6 0 rfl rfl 10 (by decide) L34 rfl (v := .ref (ad 10)) rfl dX6_blow_87 ?_
  refine lv_iload_n hx hb dX6_blow_90 rfl (lv_at hl9 2 rfl) ?_
  refine z_iald Z Mz9 9 (h0 := ad 10) (n := 12) (f := σ 10) rfl (j := i) (by omega) (by decide) dX6_blow_91 ?_
  refine lv_sipush (v := 700) hx hb dX6_blow_92 (by decide) ?_
  refine lv_icmp_ge (tgt := 107) hx hb dX6_blow_95 (by decide) (fun h => absurd h (Int32.not_le.mpr h10)) (fun _ => ?_)
  refine lv_aload_n hx hb dX6_blow_98 rfl (lv_at hl9 1 rfl) ?_
  refine z_getf Z Mz9 hin6 0 rfl rfl 14 (by decide) L46 rfl (v := .ref (ad 14)) rfl dX6_blow_99 ?_
  refine lv_iload_n hx hb dX6_blow_102 rfl (lv_at hl9 2 rfl) ?_
  refine lv_iconst (v := 1) hx hb dX6_blow_103 (by decide) ?_
  refine z_zast Z Mz9 13 (h0 := ad 14) (n := 12) (f := σ 14) rfl (j := i) (x := 1) (by omega) (by decide) (hx1 := by decide) (ws' := mW o ad T (upS (upS σ 14 (upd (σ 14) i 1)) 31 (fun _ => 0))) rfl dX6_blow_104 (fun Hp9 lc9 Mz9 => ?_)
  refine lv_iconst (v := (-1)) hx hb dX6_blow_105 (by decide) ?_
  exact hret _ _ _ _ _ sl9 _ _ Mz9 (rfl) (rfl) (rfl) (Nat.le_refl _) (Nat.le_refl _) dX6_blow_106
set_option maxHeartbeats 4000000 in
set_option maxRecDepth 100000 in
theorem cm_blow_ok1 (l : Launch) (D : va_G) (T : Nat → ClassId) (o : Nat) (ad : Nat → Nat) (σ : Nat → Nat → Int32) (i j : Nat) (fo : Int32) (hi : i < 12) (hj : j < 8) (h1 : bin (nI i) 0 (σ 5 0 - 1) = 1) (h2 : bin (nI j) 0 7 = 1) (h4 : bin fo 1 20 = 1) (h14 : σ 14 i = 0) (sk co gr : Int32) (h10 : ¬ σ 10 i < 700) (h9 : σ 9 i = sk) (hco : σ 10 i = co) (h11 : σ 11 i = gr) : ZI l yX6_blow wsX6_blow (zrm 2 43) D T (mW o ad T σ) (mW o ad T (upS (upS (upS (upS (upS (upS σ 7 ((blA (σ 7) (8 * i + nbr j) (8 * i + j) (imin fo (σ 7 (8 * i + nbr j) - 1))))) 9 (upd (σ 9) i (clS sk))) 10 (upd (σ 10) i (wrm (clS sk) co))) 11 (upd (σ 11) i (grv gr fo co))) 13 (upd (σ 13) i (σ 13 i + lapv ((blA (σ 7) (8 * i + nbr j) (8 * i + j) (imin fo (σ 7 (8 * i + nbr j) - 1))) (8 * i + j)) ((blA (σ 7) (8 * i + nbr j) (8 * i + j) (imin fo (σ 7 (8 * i + nbr j) - 1))) (8 * i + nbr j))))) 31 (fun _ => 0))) [.ref o, .int (nI (i)), .int (nI (j)), .int 1, .int (fo)] (imin fo (σ 7 (8 * i + nbr j) - 1)) 0 0 := by
  refine z_inI (cc := cX6_blow) (maxL := 11) (rt := .int) (by decide +kernel) rfl (Nat.le_of_ble_eq_true rfl) ?_
  intro p e s m args below meth c sl9 A Q Z hnm Mz9 hl9 hret
  have Z : zC p s m args c cX6_blow 11 RX6 wsX6_blow D T A := Z
  have hx := Z.1.1
  have hb := Z.1.2.1
  have hts := Z.1.2.2.2.2
  have hin6 : ∀ w ∈ wsX60, w ∈ wsX6_blow := fun w h => List.mem_cons_of_mem _ (List.mem_append_right _ h)
  have hH0 : s.heap = s.heap := rfl
  have L46 := hts (.fieldLink RX6 46 "AnvilHouseModel" "hasCrack" "[Z") (by decide +kernel)
  have L34 := hts (.fieldLink RX6 34 "AnvilHouseModel" "core" "[I") (by decide +kernel)
  have L25 := hts (.fieldLink RX6 25 "AnvilHouseModel" "areas" "[I") (by decide +kernel)
  have L43 := hts (.fieldLink RX6 43 "AnvilHouseModel" "laps" "[I") (by decide +kernel)
  have L37 := hts (.fieldLink RX6 37 "AnvilHouseModel" "grain" "[I") (by decide +kernel)
  have hl9 : lv_has sl9 11 [(0, .ref o), (1, .int (nI (i))), (2, .int (nI (j))), (3, .int 1), (4, .int (fo))] := hl9
  have hnb := nbr_lt hj
  refine lv_aload_n hx hb dX6_blow_0 rfl (lv_at hl9 0 rfl) ?_
  refine lv_iload_n hx hb dX6_blow_1 rfl (lv_at hl9 1 rfl) ?_
  refine z_callAi (As := [.int (nI (i))]) (rest := []) (rv := bin (nI (i)) 0 (σ 5 0 - 1)) (wc' := mW o ad T σ) Z Mz9 (cm_isBillet l D T o ad (σ) (nI (i))) (cwV 1 hts gX6_blow_X6_isBillet rfl rfl rfl (by decide +kernel) ⟨by decide, by decide⟩) (va_recv Z.2.1 Mz9.1 (ci := 7) (q0 := 0) rfl rfl) rfl hl9.1 (Nat.le_of_ble_eq_true rfl) dX6_blow_2 ⟨by decide, by decide⟩ rfl (fun Hp9 lc9 Mz9 => ?_)
  refine zn_top (y := 1) (h1) ?_
  refine lv_if_eq (tgt := 19) hx hb dX6_blow_5 (by decide) (fun h => absurd h (by decide)) (fun _ => ?_)
  refine lv_iload_n hx hb dX6_blow_8 rfl (lv_at hl9 2 rfl) ?_
  refine z_callSi (As := [.int (nI (j))]) (rest := []) Z.1 (cm_isSection l (nI (j))) (va_cwS 1 hts gX6_blow_X6_isSection rfl rfl rfl (by decide +kernel) ⟨by decide, by decide⟩) rfl hl9.1 (Nat.le_of_ble_eq_true rfl) dX6_blow_9 ⟨by decide, by decide⟩ rfl ?_
  refine zn_top (y := 1) (h2) ?_
  refine lv_if_eq (tgt := 19) hx hb dX6_blow_12 (by decide) (fun h => absurd h (by decide)) (fun _ => ?_)
  refine lv_iconst (v := 1) hx hb dX6_blow_15 (by decide) ?_
  refine lv_goto (tgt := 20) hx hb dX6_blow_16 (by decide) ?_
  refine lv_istore (lv' := [(5, .int 1), (0, .ref o), (1, .int (nI (i))), (2, .int (nI (j))), (3, .int 1), (4, .int (fo))]) hx hb dX6_blow_20 hl9 (by decide) rfl (fun sl9 hl9 => ?_)
  refine lv_aload_n hx hb dX6_blow_22 rfl (lv_at hl9 1 rfl) ?_
  refine lv_iload hx hb dX6_blow_23 (lv_at hl9 0 rfl) ?_
  refine lv_iload_n hx hb dX6_blow_25 rfl (lv_at hl9 4 rfl) ?_
  refine lv_iconst (v := 0) hx hb dX6_blow_26 (by decide) ?_
  refine lv_iconst (v := 1) hx hb dX6_blow_27 (by decide) ?_
  refine z_callSi (As := [.int 1, .int 0, .int 1]) (rest := [.int 1, .ref o]) Z.1 (cm_in l (1) (0) (1)) (va_cwS 3 hts gX6_blow_X6_in rfl rfl rfl (by decide +kernel) ⟨by decide, by decide⟩) rfl hl9.1 (Nat.le_of_ble_eq_true rfl) dX6_blow_28 ⟨by decide, by decide⟩ rfl ?_
  refine zn_top (y := 1) (rfl) ?_
  refine lv_if_eq (tgt := 49) hx hb dX6_blow_31 (by decide) (fun h => absurd h (by decide)) (fun _ => ?_)
  refine lv_iload hx hb dX6_blow_34 (lv_at hl9 5 rfl) ?_
  refine lv_iconst (v := 1) hx hb dX6_blow_36 (by decide) ?_
  refine lv_bipush (v := 20) hx hb dX6_blow_37 (by decide) ?_
  refine z_callSi (As := [.int (fo), .int 1, .int 20]) (rest := [.int 1, .ref o]) Z.1 (cm_in l (fo) (1) (20)) (va_cwS 3 hts gX6_blow_X6_in rfl rfl rfl (by decide +kernel) ⟨by decide, by decide⟩) rfl hl9.1 (Nat.le_of_ble_eq_true rfl) dX6_blow_39 ⟨by decide, by decide⟩ rfl ?_
  refine zn_top (y := 1) (h4) ?_
  refine lv_if_eq (tgt := 49) hx hb dX6_blow_42 (by decide) (fun h => absurd h (by decide)) (fun _ => ?_)
  refine lv_iconst (v := 1) hx hb dX6_blow_45 (by decide) ?_
  refine lv_goto (tgt := 50) hx hb dX6_blow_46 (by decide) ?_
  refine lv_iload hx hb dX6_blow_50 (lv_at hl9 0 rfl) ?_
  refine lv_if_eq (tgt := 77) hx hb dX6_blow_52 (by decide) (fun h => absurd h (by decide)) (fun _ => ?_)
  refine lv_aload_n hx hb dX6_blow_55 rfl (lv_at hl9 1 rfl) ?_
  refine z_getf Z Mz9 hin6 0 rfl rfl 14 (by decide) L46 rfl (v := .ref (ad 14)) rfl dX6_blow_56 ?_
  refine lv_iload hx hb dX6_blow_59 (lv_at hl9 0 rfl) ?_
  refine lv_if_eq (tgt := 68) hx hb dX6_blow_61 (by decide) (fun h => absurd h (by decide)) (fun _ => ?_)
  refine lv_iload_n hx hb dX6_blow_64 rfl (lv_at hl9 2 rfl) ?_
  refine lv_goto (tgt := 69) hx hb dX6_blow_65 (by decide) ?_
  refine z_zald Z Mz9 13 (h0 := ad 14) (n := 12) (f := σ 14) rfl (j := i) (by omega) (by decide) dX6_blow_69 ?_
  refine zn_top (y := 0) (h14) ?_
  refine lv_if_ne (tgt := 77) hx hb dX6_blow_70 (by decide) (fun h => absurd h (by decide)) (fun _ => ?_)
  refine lv_iconst (v := 1) hx hb dX6_blow_73 (by decide) ?_
  refine lv_goto (tgt := 78) hx hb dX6_blow_74 (by decide) ?_
  refine z_callAi (As := [.int 1, .int 1, .int 1]) (rest := []) (rv := if gth (1) (1) (1) = 0 then 1 else 0) (wc' := mW o ad T (upS σ 31 (fun _ => 0))) Z Mz9 (cm_goes l D T o ad (σ) (1) (1) (1)) (cwV 3 hts gX6_blow_X6_goes rfl rfl rfl (by decide +kernel) ⟨by decide, by decide⟩) (va_recv Z.2.1 Mz9.1 (ci := 7) (q0 := 0) rfl rfl) rfl hl9.1 (Nat.le_of_ble_eq_true rfl) dX6_blow_78 ⟨by decide, by decide⟩ rfl (fun Hp9 lc9 Mz9 => ?_)
  refine zn_top (y := 1) (by decide) ?_
  refine lv_if_ne (tgt := 86) hx hb dX6_blow_81 (by decide) (fun _ => ?_) (fun h => absurd h (by decide))
  refine lv_aload_n hx hb dX6_blow_86 rfl (lv_at hl9 1 rfl) ?_
  refine z_getf Z Mz9 hin6 0 rfl rfl 10 (by decide) L34 rfl (v := .ref (ad 10)) rfl dX6_blow_87 ?_
  refine lv_iload_n hx hb dX6_blow_90 rfl (lv_at hl9 2 rfl) ?_
  refine z_iald Z Mz9 9 (h0 := ad 10) (n := 12) (f := σ 10) rfl (j := i) (by omega) (by decide) dX6_blow_91 ?_
  refine zn_top (y := co) (hco) ?_
  refine lv_sipush (v := 700) hx hb dX6_blow_92 (by decide) ?_
  refine lv_icmp_ge (tgt := 107) hx hb dX6_blow_95 (by decide) (fun _ => ?_) (fun h => absurd h (fun h => h (Int32.not_lt.mp (hco ▸ h10))))
  refine lv_bipush (v := 8) hx hb dX6_blow_107 (by decide) ?_
  refine lv_iload_n hx hb dX6_blow_109 rfl (lv_at hl9 2 rfl) ?_
  refine zn_imul (a := 8) (b := i) hx hb dX6_blow_110 ?_
  refine lv_iload_n hx hb dX6_blow_111 rfl (lv_at hl9 3 rfl) ?_
  refine zn_iadd (a := 8 * i) (b := j) hx hb dX6_blow_112 ?_
  refine lv_istore (lv' := [(6, .int (nI ((8 * i) + j))), (5, .int 1), (0, .ref o), (1, .int (nI (i))), (2, .int (nI (j))), (3, .int 1), (4, .int (fo))]) hx hb dX6_blow_113 hl9 (by decide) rfl (fun sl9 hl9 => ?_)
  refine lv_bipush (v := 8) hx hb dX6_blow_115 (by decide) ?_
  refine lv_iload_n hx hb dX6_blow_117 rfl (lv_at hl9 3 rfl) ?_
  refine zn_imul (a := 8) (b := i) hx hb dX6_blow_118 ?_
  refine lv_iload_n hx hb dX6_blow_119 rfl (lv_at hl9 4 rfl) ?_
  refine z_callSi (As := [.int (nI (j))]) (rest := [.int (nI (8 * i))]) Z.1 (cm_neighbour l (j) (by omega)) (va_cwS 1 hts gX6_blow_X6_neighbour rfl rfl rfl (by decide +kernel) ⟨by decide, by decide⟩) rfl hl9.1 (Nat.le_of_ble_eq_true rfl) dX6_blow_120 ⟨by decide, by decide⟩ rfl ?_
  refine zn_iadd (a := 8 * i) (b := nbr (j)) hx hb dX6_blow_123 ?_
  refine lv_istore (lv' := [(7, .int (nI ((8 * i) + (nbr (j))))), (6, .int (nI ((8 * i) + j))), (5, .int 1), (0, .ref o), (1, .int (nI (i))), (2, .int (nI (j))), (3, .int 1), (4, .int (fo))]) hx hb dX6_blow_124 hl9 (by decide) rfl (fun sl9 hl9 => ?_)
  refine lv_iload_n hx hb dX6_blow_126 rfl (lv_at hl9 6 rfl) ?_
  refine lv_if_ne (tgt := 135) hx hb dX6_blow_127 (by decide) (fun _ => ?_) (fun h => absurd h (by decide))
  refine lv_iload hx hb dX6_blow_135 (lv_at hl9 0 rfl) ?_
  refine lv_istore (lv' := [(8, .int (nI ((8 * i) + (nbr (j))))), (7, .int (nI ((8 * i) + (nbr (j))))), (6, .int (nI ((8 * i) + j))), (5, .int 1), (0, .ref o), (1, .int (nI (i))), (2, .int (nI (j))), (3, .int 1), (4, .int (fo))]) hx hb dX6_blow_137 hl9 (by decide) rfl (fun sl9 hl9 => ?_)
  refine lv_iload_n hx hb dX6_blow_139 rfl (lv_at hl9 7 rfl) ?_
  refine lv_if_ne (tgt := 148) hx hb dX6_blow_140 (by decide) (fun _ => ?_) (fun h => absurd h (by decide))
  refine lv_iload hx hb dX6_blow_148 (lv_at hl9 2 rfl) ?_
  refine lv_istore (lv' := [(9, .int (nI ((8 * i) + j))), (8, .int (nI ((8 * i) + (nbr (j))))), (7, .int (nI ((8 * i) + (nbr (j))))), (6, .int (nI ((8 * i) + j))), (5, .int 1), (0, .ref o), (1, .int (nI (i))), (2, .int (nI (j))), (3, .int 1), (4, .int (fo))]) hx hb dX6_blow_150 hl9 (by decide) rfl (fun sl9 hl9 => ?_)
  refine lv_iload hx hb dX6_blow_152 (lv_at hl9 9 rfl) ?_
  refine lv_aload_n hx hb dX6_blow_154 rfl (lv_at hl9 5 rfl) ?_
  refine z_getf Z Mz9 hin6 0 rfl rfl 7 (by decide) L25 rfl (v := .ref (ad 7)) rfl dX6_blow_155 ?_
  refine lv_iload hx hb dX6_blow_158 (lv_at hl9 1 rfl) ?_
  refine z_iald Z Mz9 6 (h0 := ad 7) (n := 96) (f := σ 7) rfl (j := (8 * i) + (nbr (j))) (by omega) (by decide) dX6_blow_160 ?_
  refine lv_iconst (v := 1) hx hb dX6_blow_161 (by decide) ?_
  refine lv_isub hx hb dX6_blow_162 ?_
  refine z_callSi (As := [.int (fo), .int (((σ 7) ((8 * i) + (nbr (j)))) - 1)]) (rest := []) Z.1 (cm_least l (fo) (((σ 7) ((8 * i) + (nbr (j)))) - 1)) (va_cwS 2 hts gX6_blow_X6_least rfl rfl rfl (by decide +kernel) ⟨by decide, by decide⟩) rfl hl9.1 (Nat.le_of_ble_eq_true rfl) dX6_blow_163 ⟨by decide, by decide⟩ rfl ?_
  refine lv_istore (lv' := [(10, .int (imin (fo) (((σ 7) ((8 * i) + (nbr (j)))) - 1))), (9, .int (nI ((8 * i) + j))), (8, .int (nI ((8 * i) + (nbr (j))))), (7, .int (nI ((8 * i) + (nbr (j))))), (6, .int (nI ((8 * i) + j))), (5, .int 1), (0, .ref o), (1, .int (nI (i))), (2, .int (nI (j))), (3, .int 1), (4, .int (fo))]) hx hb dX6_blow_166 hl9 (by decide) rfl (fun sl9 hl9 => ?_)
  refine lv_aload_n hx hb dX6_blow_168 rfl (lv_at hl9 6 rfl) ?_
  refine z_getf Z Mz9 hin6 0 rfl rfl 7 (by decide) L25 rfl (v := .ref (ad 7)) rfl dX6_blow_169 ?_
  refine lv_iload hx hb dX6_blow_172 (lv_at hl9 2 rfl) ?_
  refine lv_dup2_11 hx hb dX6_blow_174 rfl rfl ?_
  refine z_iald Z Mz9 6 (h0 := ad 7) (n := 96) (f := σ 7) rfl (j := (8 * i) + (nbr (j))) (by omega) (by decide) dX6_blow_175 ?_
  refine lv_iload hx hb dX6_blow_176 (lv_at hl9 0 rfl) ?_
  refine lv_isub hx hb dX6_blow_178 ?_
  refine z_iast Z Mz9 6 (h0 := ad 7) (n := 96) (f := σ 7) rfl (j := (8 * i) + (nbr (j))) (x := ((σ 7) ((8 * i) + (nbr (j)))) - (imin (fo) (((σ 7) ((8 * i) + (nbr (j)))) - 1))) (by omega) (by decide) (ws' := mW o ad T (upS (upS σ 7 (upd (σ 7) ((8 * i) + (nbr (j))) (((σ 7) ((8 * i) + (nbr (j)))) - (imin (fo) (((σ 7) ((8 * i) + (nbr (j)))) - 1))))) 31 (fun _ => 0))) rfl dX6_blow_179 (fun Hp9 lc9 Mz9 => ?_)
  refine lv_aload_n hx hb dX6_blow_180 rfl (lv_at hl9 6 rfl) ?_
  refine z_getf Z Mz9 hin6 0 rfl rfl 7 (by decide) L25 rfl (v := .ref (ad 7)) rfl dX6_blow_181 ?_
  refine lv_iload hx hb dX6_blow_184 (lv_at hl9 1 rfl) ?_
  refine lv_dup2_11 hx hb dX6_blow_186 rfl rfl ?_
  refine z_iald Z Mz9 6 (h0 := ad 7) (n := 96) (f := upd (σ 7) ((8 * i) + (nbr (j))) (((σ 7) ((8 * i) + (nbr (j)))) - (imin (fo) (((σ 7) ((8 * i) + (nbr (j)))) - 1)))) rfl (j := (8 * i) + j) (by omega) (by decide) dX6_blow_187 ?_
  refine lv_iload hx hb dX6_blow_188 (lv_at hl9 0 rfl) ?_
  refine lv_iadd hx hb dX6_blow_190 ?_
  refine z_iast Z Mz9 6 (h0 := ad 7) (n := 96) (f := upd (σ 7) ((8 * i) + (nbr (j))) (((σ 7) ((8 * i) + (nbr (j)))) - (imin (fo) (((σ 7) ((8 * i) + (nbr (j)))) - 1)))) rfl (j := (8 * i) + j) (x := ((upd (σ 7) ((8 * i) + (nbr (j))) (((σ 7) ((8 * i) + (nbr (j)))) - (imin (fo) (((σ 7) ((8 * i) + (nbr (j)))) - 1)))) ((8 * i) + j)) + (imin (fo) (((σ 7) ((8 * i) + (nbr (j)))) - 1))) (by omega) (by decide) (ws' := mW o ad T (upS (upS σ 7 (upd (upd (σ 7) ((8 * i) + (nbr (j))) (((σ 7) ((8 * i) + (nbr (j)))) - (imin (fo) (((σ 7) ((8 * i) + (nbr (j)))) - 1)))) ((8 * i) + j) (((upd (σ 7) ((8 * i) + (nbr (j))) (((σ 7) ((8 * i) + (nbr (j)))) - (imin (fo) (((σ 7) ((8 * i) + (nbr (j)))) - 1)))) ((8 * i) + j)) + (imin (fo) (((σ 7) ((8 * i) + (nbr (j)))) - 1))))) 31 (fun _ => 0))) rfl dX6_blow_191 (fun Hp9 lc9 Mz9 => ?_)
  have Mz9 : zM D A s.heap (mW o ad T (upS (upS σ 7 ((blA (σ 7) (8 * i + nbr j) (8 * i + j) (imin fo (σ 7 (8 * i + nbr j) - 1))))) 31 (fun _ => 0))) _ _ := zM_w (by rfl) Mz9
  refine lv_aload_n hx hb dX6_blow_192 rfl (lv_at hl9 6 rfl) ?_
  refine z_getf Z Mz9 hin6 0 rfl rfl 13 (by decide) L43 rfl (v := .ref (ad 13)) rfl dX6_blow_193 ?_
  refine lv_iload_n hx hb dX6_blow_196 rfl (lv_at hl9 7 rfl) ?_
  refine lv_dup2_11 hx hb dX6_blow_197 rfl rfl ?_
  refine z_iald Z Mz9 12 (h0 := ad 13) (n := 12) (f := σ 13) rfl (j := i) (by omega) (by decide) dX6_blow_198 ?_
  refine lv_aload_n hx hb dX6_blow_199 rfl (lv_at hl9 6 rfl) ?_
  refine z_getf Z Mz9 hin6 0 rfl rfl 7 (by decide) L25 rfl (v := .ref (ad 7)) rfl dX6_blow_200 ?_
  refine lv_iload hx hb dX6_blow_203 (lv_at hl9 4 rfl) ?_
  refine z_iald Z Mz9 6 (h0 := ad 7) (n := 96) (f := (blA (σ 7) (8 * i + nbr j) (8 * i + j) (imin fo (σ 7 (8 * i + nbr j) - 1)))) rfl (j := (8 * i) + j) (by omega) (by decide) dX6_blow_205 ?_
  refine lv_iconst (v := 3) hx hb dX6_blow_206 (by decide) ?_
  refine lv_aload_n hx hb dX6_blow_207 rfl (lv_at hl9 6 rfl) ?_
  refine z_getf Z Mz9 hin6 0 rfl rfl 7 (by decide) L25 rfl (v := .ref (ad 7)) rfl dX6_blow_208 ?_
  refine lv_iload hx hb dX6_blow_211 (lv_at hl9 3 rfl) ?_
  refine z_iald Z Mz9 6 (h0 := ad 7) (n := 96) (f := (blA (σ 7) (8 * i + nbr j) (8 * i + j) (imin fo (σ 7 (8 * i + nbr j) - 1)))) rfl (j := (8 * i) + (nbr (j))) (by omega) (by decide) dX6_blow_213 ?_
  refine lv_imul hx hb dX6_blow_214 ?_
  refine lv_icmp_gt (tgt := 237) hx hb dX6_blow_215 (by decide) (fun c_1 => ?_) (fun c_1 => ?_)
  ·
    refine lv_iconst (v := 1) hx hb dX6_blow_237 (by decide) ?_
    refine lv_goto (tgt := 242) hx hb dX6_blow_238 (by decide) ?_
    refine lv_iadd hx hb dX6_blow_242 ?_
    refine z_iast Z Mz9 12 (h0 := ad 13) (n := 12) (f := σ 13) rfl (j := i) (x := ((σ 13) i) + 1) (by omega) (by decide) (ws' := mW o ad T (upS (upS (upS σ 7 ((blA (σ 7) (8 * i + nbr j) (8 * i + j) (imin fo (σ 7 (8 * i + nbr j) - 1))))) 13 (upd (σ 13) i (((σ 13) i) + 1))) 31 (fun _ => 0))) rfl dX6_blow_243 (fun Hp9 lc9 Mz9 => ?_)
    refine lv_aload_n hx hb dX6_blow_244 rfl (lv_at hl9 6 rfl) ?_
    refine z_getf Z Mz9 hin6 0 rfl rfl 10 (by decide) L34 rfl (v := .ref (ad 10)) rfl dX6_blow_245 ?_
    refine lv_iload_n hx hb dX6_blow_248 rfl (lv_at hl9 7 rfl) ?_
    refine z_iald Z Mz9 9 (h0 := ad 10) (n := 12) (f := σ 10) rfl (j := i) (by omega) (by decide) dX6_blow_249 ?_
    refine zn_top (y := co) (hco) ?_
    refine lv_sipush (v := 900) hx hb dX6_blow_250 (by decide) ?_
    refine lv_icmp_lt (tgt := 288) hx hb dX6_blow_253 (by decide) (fun c_2 => ?_) (fun c_2 => ?_)
    ·
      refine lv_aload_n hx hb dX6_blow_288 rfl (lv_at hl9 6 rfl) ?_
      refine lv_iload_n hx hb dX6_blow_289 rfl (lv_at hl9 7 rfl) ?_
      refine z_callAv (As := [.int (nI (i))]) (rest := []) (wc' := mW o ad T (upS (upS (upS (upS (upS σ 7 ((blA (σ 7) (8 * i + nbr j) (8 * i + j) (imin fo (σ 7 (8 * i + nbr j) - 1))))) 9 (upd (σ 9) i (clS (sk)))) 10 (upd (σ 10) i (wrm (clS (sk)) (co)))) 13 (upd (σ 13) i (((σ 13) i) + 1))) 31 (fun _ => 0))) Z Mz9 (cm_cools l D T o ad (upS (upS (upS σ 7 ((blA (σ 7) (8 * i + nbr j) (8 * i + j) (imin fo (σ 7 (8 * i + nbr j) - 1))))) 13 (upd (σ 13) i (((σ 13) i) + 1))) 31 (fun _ => 0)) (i) (sk) (co) (by omega) (h9) (hco)) (cwV 1 hts gX6_blow_X6_cools rfl rfl rfl (by decide +kernel) ⟨by decide, by decide⟩) (va_recv Z.2.1 Mz9.1 (ci := 7) (q0 := 0) rfl rfl) rfl hl9.1 (Nat.le_of_ble_eq_true rfl) dX6_blow_290 ⟨by decide, by decide⟩ rfl (fun Hp9 lc9 Mz9 => ?_)
      refine lv_iload hx hb dX6_blow_293 (lv_at hl9 0 rfl) ?_
      exact hret _ _ _ _ _ sl9 _ _ Mz9 (by simp only [lapv, grv, add_0, if_pos c_1, if_pos c_2, ← h11, upd_id] <;> rfl) (rfl) (rfl) (Nat.le_refl _) (Nat.le_refl _) dX6_blow_295
    ·
      refine lv_aload_n hx hb dX6_blow_256 rfl (lv_at hl9 6 rfl) ?_
      refine z_getf Z Mz9 hin6 0 rfl rfl 11 (by decide) L37 rfl (v := .ref (ad 11)) rfl dX6_blow_257 ?_
      refine lv_iload_n hx hb dX6_blow_260 rfl (lv_at hl9 7 rfl) ?_
      refine lv_aload_n hx hb dX6_blow_261 rfl (lv_at hl9 6 rfl) ?_
      refine z_getf Z Mz9 hin6 0 rfl rfl 11 (by decide) L37 rfl (v := .ref (ad 11)) rfl dX6_blow_262 ?_
      refine lv_iload_n hx hb dX6_blow_265 rfl (lv_at hl9 7 rfl) ?_
      refine z_iald Z Mz9 10 (h0 := ad 11) (n := 12) (f := σ 11) rfl (j := i) (by omega) (by decide) dX6_blow_266 ?_
      refine zn_top (y := gr) (h11) ?_
      refine lv_iload hx hb dX6_blow_267 (lv_at hl9 10 rfl) ?_
      refine lv_isub hx hb dX6_blow_269 ?_
      refine lv_iconst (v := 5) hx hb dX6_blow_270 (by decide) ?_
      refine lv_icmp_ge (tgt := 278) hx hb dX6_blow_271 (by decide) (fun c_3 => ?_) (fun c_3 => ?_)
      ·
        refine lv_aload_n hx hb dX6_blow_278 rfl (lv_at hl9 6 rfl) ?_
        refine z_getf Z Mz9 hin6 0 rfl rfl 11 (by decide) L37 rfl (v := .ref (ad 11)) rfl dX6_blow_279 ?_
        refine lv_iload_n hx hb dX6_blow_282 rfl (lv_at hl9 7 rfl) ?_
        refine z_iald Z Mz9 10 (h0 := ad 11) (n := 12) (f := σ 11) rfl (j := i) (by omega) (by decide) dX6_blow_283 ?_
        refine zn_top (y := gr) (h11) ?_
        refine lv_iload hx hb dX6_blow_284 (lv_at hl9 10 rfl) ?_
        refine lv_isub hx hb dX6_blow_286 ?_
        refine z_iast Z Mz9 10 (h0 := ad 11) (n := 12) (f := σ 11) rfl (j := i) (x := gr - fo) (by omega) (by decide) (ws' := mW o ad T (upS (upS (upS (upS σ 7 ((blA (σ 7) (8 * i + nbr j) (8 * i + j) (imin fo (σ 7 (8 * i + nbr j) - 1))))) 11 (upd (σ 11) i (gr - fo))) 13 (upd (σ 13) i (((σ 13) i) + 1))) 31 (fun _ => 0))) rfl dX6_blow_287 (fun Hp9 lc9 Mz9 => ?_)
        refine lv_aload_n hx hb dX6_blow_288 rfl (lv_at hl9 6 rfl) ?_
        refine lv_iload_n hx hb dX6_blow_289 rfl (lv_at hl9 7 rfl) ?_
        refine z_callAv (As := [.int (nI (i))]) (rest := []) (wc' := mW o ad T (upS (upS (upS (upS (upS (upS σ 7 ((blA (σ 7) (8 * i + nbr j) (8 * i + j) (imin fo (σ 7 (8 * i + nbr j) - 1))))) 9 (upd (σ 9) i (clS (sk)))) 10 (upd (σ 10) i (wrm (clS (sk)) (co)))) 11 (upd (σ 11) i (gr - fo))) 13 (upd (σ 13) i (((σ 13) i) + 1))) 31 (fun _ => 0))) Z Mz9 (cm_cools l D T o ad (upS (upS (upS (upS σ 7 ((blA (σ 7) (8 * i + nbr j) (8 * i + j) (imin fo (σ 7 (8 * i + nbr j) - 1))))) 11 (upd (σ 11) i (gr - fo))) 13 (upd (σ 13) i (((σ 13) i) + 1))) 31 (fun _ => 0)) (i) (sk) (co) (by omega) (h9) (hco)) (cwV 1 hts gX6_blow_X6_cools rfl rfl rfl (by decide +kernel) ⟨by decide, by decide⟩) (va_recv Z.2.1 Mz9.1 (ci := 7) (q0 := 0) rfl rfl) rfl hl9.1 (Nat.le_of_ble_eq_true rfl) dX6_blow_290 ⟨by decide, by decide⟩ rfl (fun Hp9 lc9 Mz9 => ?_)
        refine lv_iload hx hb dX6_blow_293 (lv_at hl9 0 rfl) ?_
        exact hret _ _ _ _ _ sl9 _ _ Mz9 (by simp only [lapv, grv, add_0, if_pos c_1, if_neg c_2, if_neg (Int32.not_lt.mpr c_3)]) (rfl) (rfl) (Nat.le_refl _) (Nat.le_refl _) dX6_blow_295
      ·
        refine lv_iconst (v := 5) hx hb dX6_blow_274 (by decide) ?_
        refine lv_goto (tgt := 287) hx hb dX6_blow_275 (by decide) ?_
        refine z_iast Z Mz9 10 (h0 := ad 11) (n := 12) (f := σ 11) rfl (j := i) (x := 5) (by omega) (by decide) (ws' := mW o ad T (upS (upS (upS (upS σ 7 ((blA (σ 7) (8 * i + nbr j) (8 * i + j) (imin fo (σ 7 (8 * i + nbr j) - 1))))) 11 (upd (σ 11) i 5)) 13 (upd (σ 13) i (((σ 13) i) + 1))) 31 (fun _ => 0))) rfl dX6_blow_287 (fun Hp9 lc9 Mz9 => ?_)
        refine lv_aload_n hx hb dX6_blow_288 rfl (lv_at hl9 6 rfl) ?_
        refine lv_iload_n hx hb dX6_blow_289 rfl (lv_at hl9 7 rfl) ?_
        refine z_callAv (As := [.int (nI (i))]) (rest := []) (wc' := mW o ad T (upS (upS (upS (upS (upS (upS σ 7 ((blA (σ 7) (8 * i + nbr j) (8 * i + j) (imin fo (σ 7 (8 * i + nbr j) - 1))))) 9 (upd (σ 9) i (clS (sk)))) 10 (upd (σ 10) i (wrm (clS (sk)) (co)))) 11 (upd (σ 11) i 5)) 13 (upd (σ 13) i (((σ 13) i) + 1))) 31 (fun _ => 0))) Z Mz9 (cm_cools l D T o ad (upS (upS (upS (upS σ 7 ((blA (σ 7) (8 * i + nbr j) (8 * i + j) (imin fo (σ 7 (8 * i + nbr j) - 1))))) 11 (upd (σ 11) i 5)) 13 (upd (σ 13) i (((σ 13) i) + 1))) 31 (fun _ => 0)) (i) (sk) (co) (by omega) (h9) (hco)) (cwV 1 hts gX6_blow_X6_cools rfl rfl rfl (by decide +kernel) ⟨by decide, by decide⟩) (va_recv Z.2.1 Mz9.1 (ci := 7) (q0 := 0) rfl rfl) rfl hl9.1 (Nat.le_of_ble_eq_true rfl) dX6_blow_290 ⟨by decide, by decide⟩ rfl (fun Hp9 lc9 Mz9 => ?_)
        refine lv_iload hx hb dX6_blow_293 (lv_at hl9 0 rfl) ?_
        exact hret _ _ _ _ _ sl9 _ _ Mz9 (by simp only [lapv, grv, add_0, if_pos c_1, if_neg c_2, if_pos (Int32.not_le.mp c_3)]) (rfl) (rfl) (Nat.le_refl _) (Nat.le_refl _) dX6_blow_295
  ·
    refine lv_aload_n hx hb dX6_blow_218 rfl (lv_at hl9 6 rfl) ?_
    refine z_getf Z Mz9 hin6 0 rfl rfl 7 (by decide) L25 rfl (v := .ref (ad 7)) rfl dX6_blow_219 ?_
    refine lv_iload hx hb dX6_blow_222 (lv_at hl9 3 rfl) ?_
    refine z_iald Z Mz9 6 (h0 := ad 7) (n := 96) (f := (blA (σ 7) (8 * i + nbr j) (8 * i + j) (imin fo (σ 7 (8 * i + nbr j) - 1)))) rfl (j := (8 * i) + (nbr (j))) (by omega) (by decide) dX6_blow_224 ?_
    refine lv_iconst (v := 3) hx hb dX6_blow_225 (by decide) ?_
    refine lv_aload_n hx hb dX6_blow_226 rfl (lv_at hl9 6 rfl) ?_
    refine z_getf Z Mz9 hin6 0 rfl rfl 7 (by decide) L25 rfl (v := .ref (ad 7)) rfl dX6_blow_227 ?_
    refine lv_iload hx hb dX6_blow_230 (lv_at hl9 4 rfl) ?_
    refine z_iald Z Mz9 6 (h0 := ad 7) (n := 96) (f := (blA (σ 7) (8 * i + nbr j) (8 * i + j) (imin fo (σ 7 (8 * i + nbr j) - 1)))) rfl (j := (8 * i) + j) (by omega) (by decide) dX6_blow_232 ?_
    refine lv_imul hx hb dX6_blow_233 ?_
    refine lv_icmp_le (tgt := 241) hx hb dX6_blow_234 (by decide) (fun c_4 => ?_) (fun c_4 => ?_)
    ·
      refine lv_iconst (v := 0) hx hb dX6_blow_241 (by decide) ?_
      refine lv_iadd hx hb dX6_blow_242 ?_
      refine z_iast Z Mz9 12 (h0 := ad 13) (n := 12) (f := σ 13) rfl (j := i) (x := ((σ 13) i) + 0) (by omega) (by decide) (ws' := mW o ad T (upS (upS (upS σ 7 ((blA (σ 7) (8 * i + nbr j) (8 * i + j) (imin fo (σ 7 (8 * i + nbr j) - 1))))) 13 (upd (σ 13) i (((σ 13) i) + 0))) 31 (fun _ => 0))) rfl dX6_blow_243 (fun Hp9 lc9 Mz9 => ?_)
      refine lv_aload_n hx hb dX6_blow_244 rfl (lv_at hl9 6 rfl) ?_
      refine z_getf Z Mz9 hin6 0 rfl rfl 10 (by decide) L34 rfl (v := .ref (ad 10)) rfl dX6_blow_245 ?_
      refine lv_iload_n hx hb dX6_blow_248 rfl (lv_at hl9 7 rfl) ?_
      refine z_iald Z Mz9 9 (h0 := ad 10) (n := 12) (f := σ 10) rfl (j := i) (by omega) (by decide) dX6_blow_249 ?_
      refine zn_top (y := co) (hco) ?_
      refine lv_sipush (v := 900) hx hb dX6_blow_250 (by decide) ?_
      refine lv_icmp_lt (tgt := 288) hx hb dX6_blow_253 (by decide) (fun c_5 => ?_) (fun c_5 => ?_)
      ·
        refine lv_aload_n hx hb dX6_blow_288 rfl (lv_at hl9 6 rfl) ?_
        refine lv_iload_n hx hb dX6_blow_289 rfl (lv_at hl9 7 rfl) ?_
        refine z_callAv (As := [.int (nI (i))]) (rest := []) (wc' := mW o ad T (upS (upS (upS (upS (upS σ 7 ((blA (σ 7) (8 * i + nbr j) (8 * i + j) (imin fo (σ 7 (8 * i + nbr j) - 1))))) 9 (upd (σ 9) i (clS (sk)))) 10 (upd (σ 10) i (wrm (clS (sk)) (co)))) 13 (upd (σ 13) i (((σ 13) i) + 0))) 31 (fun _ => 0))) Z Mz9 (cm_cools l D T o ad (upS (upS (upS σ 7 ((blA (σ 7) (8 * i + nbr j) (8 * i + j) (imin fo (σ 7 (8 * i + nbr j) - 1))))) 13 (upd (σ 13) i (((σ 13) i) + 0))) 31 (fun _ => 0)) (i) (sk) (co) (by omega) (h9) (hco)) (cwV 1 hts gX6_blow_X6_cools rfl rfl rfl (by decide +kernel) ⟨by decide, by decide⟩) (va_recv Z.2.1 Mz9.1 (ci := 7) (q0 := 0) rfl rfl) rfl hl9.1 (Nat.le_of_ble_eq_true rfl) dX6_blow_290 ⟨by decide, by decide⟩ rfl (fun Hp9 lc9 Mz9 => ?_)
        refine lv_iload hx hb dX6_blow_293 (lv_at hl9 0 rfl) ?_
        exact hret _ _ _ _ _ sl9 _ _ Mz9 (by simp only [lapv, grv, add_0, if_neg c_1, if_neg (Int32.not_lt.mpr c_4), if_pos c_5, ← h11, upd_id] <;> rfl) (rfl) (rfl) (Nat.le_refl _) (Nat.le_refl _) dX6_blow_295
      ·
        refine lv_aload_n hx hb dX6_blow_256 rfl (lv_at hl9 6 rfl) ?_
        refine z_getf Z Mz9 hin6 0 rfl rfl 11 (by decide) L37 rfl (v := .ref (ad 11)) rfl dX6_blow_257 ?_
        refine lv_iload_n hx hb dX6_blow_260 rfl (lv_at hl9 7 rfl) ?_
        refine lv_aload_n hx hb dX6_blow_261 rfl (lv_at hl9 6 rfl) ?_
        refine z_getf Z Mz9 hin6 0 rfl rfl 11 (by decide) L37 rfl (v := .ref (ad 11)) rfl dX6_blow_262 ?_
        refine lv_iload_n hx hb dX6_blow_265 rfl (lv_at hl9 7 rfl) ?_
        refine z_iald Z Mz9 10 (h0 := ad 11) (n := 12) (f := σ 11) rfl (j := i) (by omega) (by decide) dX6_blow_266 ?_
        refine zn_top (y := gr) (h11) ?_
        refine lv_iload hx hb dX6_blow_267 (lv_at hl9 10 rfl) ?_
        refine lv_isub hx hb dX6_blow_269 ?_
        refine lv_iconst (v := 5) hx hb dX6_blow_270 (by decide) ?_
        refine lv_icmp_ge (tgt := 278) hx hb dX6_blow_271 (by decide) (fun c_6 => ?_) (fun c_6 => ?_)
        ·
          refine lv_aload_n hx hb dX6_blow_278 rfl (lv_at hl9 6 rfl) ?_
          refine z_getf Z Mz9 hin6 0 rfl rfl 11 (by decide) L37 rfl (v := .ref (ad 11)) rfl dX6_blow_279 ?_
          refine lv_iload_n hx hb dX6_blow_282 rfl (lv_at hl9 7 rfl) ?_
          refine z_iald Z Mz9 10 (h0 := ad 11) (n := 12) (f := σ 11) rfl (j := i) (by omega) (by decide) dX6_blow_283 ?_
          refine zn_top (y := gr) (h11) ?_
          refine lv_iload hx hb dX6_blow_284 (lv_at hl9 10 rfl) ?_
          refine lv_isub hx hb dX6_blow_286 ?_
          refine z_iast Z Mz9 10 (h0 := ad 11) (n := 12) (f := σ 11) rfl (j := i) (x := gr - fo) (by omega) (by decide) (ws' := mW o ad T (upS (upS (upS (upS σ 7 ((blA (σ 7) (8 * i + nbr j) (8 * i + j) (imin fo (σ 7 (8 * i + nbr j) - 1))))) 11 (upd (σ 11) i (gr - fo))) 13 (upd (σ 13) i (((σ 13) i) + 0))) 31 (fun _ => 0))) rfl dX6_blow_287 (fun Hp9 lc9 Mz9 => ?_)
          refine lv_aload_n hx hb dX6_blow_288 rfl (lv_at hl9 6 rfl) ?_
          refine lv_iload_n hx hb dX6_blow_289 rfl (lv_at hl9 7 rfl) ?_
          refine z_callAv (As := [.int (nI (i))]) (rest := []) (wc' := mW o ad T (upS (upS (upS (upS (upS (upS σ 7 ((blA (σ 7) (8 * i + nbr j) (8 * i + j) (imin fo (σ 7 (8 * i + nbr j) - 1))))) 9 (upd (σ 9) i (clS (sk)))) 10 (upd (σ 10) i (wrm (clS (sk)) (co)))) 11 (upd (σ 11) i (gr - fo))) 13 (upd (σ 13) i (((σ 13) i) + 0))) 31 (fun _ => 0))) Z Mz9 (cm_cools l D T o ad (upS (upS (upS (upS σ 7 ((blA (σ 7) (8 * i + nbr j) (8 * i + j) (imin fo (σ 7 (8 * i + nbr j) - 1))))) 11 (upd (σ 11) i (gr - fo))) 13 (upd (σ 13) i (((σ 13) i) + 0))) 31 (fun _ => 0)) (i) (sk) (co) (by omega) (h9) (hco)) (cwV 1 hts gX6_blow_X6_cools rfl rfl rfl (by decide +kernel) ⟨by decide, by decide⟩) (va_recv Z.2.1 Mz9.1 (ci := 7) (q0 := 0) rfl rfl) rfl hl9.1 (Nat.le_of_ble_eq_true rfl) dX6_blow_290 ⟨by decide, by decide⟩ rfl (fun Hp9 lc9 Mz9 => ?_)
          refine lv_iload hx hb dX6_blow_293 (lv_at hl9 0 rfl) ?_
          exact hret _ _ _ _ _ sl9 _ _ Mz9 (by simp only [lapv, grv, add_0, if_neg c_1, if_neg (Int32.not_lt.mpr c_4), if_neg c_5, if_neg (Int32.not_lt.mpr c_6)]) (rfl) (rfl) (Nat.le_refl _) (Nat.le_refl _) dX6_blow_295
        ·
          refine lv_iconst (v := 5) hx hb dX6_blow_274 (by decide) ?_
          refine lv_goto (tgt := 287) hx hb dX6_blow_275 (by decide) ?_
          refine z_iast Z Mz9 10 (h0 := ad 11) (n := 12) (f := σ 11) rfl (j := i) (x := 5) (by omega) (by decide) (ws' := mW o ad T (upS (upS (upS (upS σ 7 ((blA (σ 7) (8 * i + nbr j) (8 * i + j) (imin fo (σ 7 (8 * i + nbr j) - 1))))) 11 (upd (σ 11) i 5)) 13 (upd (σ 13) i (((σ 13) i) + 0))) 31 (fun _ => 0))) rfl dX6_blow_287 (fun Hp9 lc9 Mz9 => ?_)
          refine lv_aload_n hx hb dX6_blow_288 rfl (lv_at hl9 6 rfl) ?_
          refine lv_iload_n hx hb dX6_blow_289 rfl (lv_at hl9 7 rfl) ?_
          refine z_callAv (As := [.int (nI (i))]) (rest := []) (wc' := mW o ad T (upS (upS (upS (upS (upS (upS σ 7 ((blA (σ 7) (8 * i + nbr j) (8 * i + j) (imin fo (σ 7 (8 * i + nbr j) - 1))))) 9 (upd (σ 9) i (clS (sk)))) 10 (upd (σ 10) i (wrm (clS (sk)) (co)))) 11 (upd (σ 11) i 5)) 13 (upd (σ 13) i (((σ 13) i) + 0))) 31 (fun _ => 0))) Z Mz9 (cm_cools l D T o ad (upS (upS (upS (upS σ 7 ((blA (σ 7) (8 * i + nbr j) (8 * i + j) (imin fo (σ 7 (8 * i + nbr j) - 1))))) 11 (upd (σ 11) i 5)) 13 (upd (σ 13) i (((σ 13) i) + 0))) 31 (fun _ => 0)) (i) (sk) (co) (by omega) (h9) (hco)) (cwV 1 hts gX6_blow_X6_cools rfl rfl rfl (by decide +kernel) ⟨by decide, by decide⟩) (va_recv Z.2.1 Mz9.1 (ci := 7) (q0 := 0) rfl rfl) rfl hl9.1 (Nat.le_of_ble_eq_true rfl) dX6_blow_290 ⟨by decide, by decide⟩ rfl (fun Hp9 lc9 Mz9 => ?_)
          refine lv_iload hx hb dX6_blow_293 (lv_at hl9 0 rfl) ?_
          exact hret _ _ _ _ _ sl9 _ _ Mz9 (by simp only [lapv, grv, add_0, if_neg c_1, if_neg (Int32.not_lt.mpr c_4), if_neg c_5, if_pos (Int32.not_le.mp c_6)]) (rfl) (rfl) (Nat.le_refl _) (Nat.le_refl _) dX6_blow_295
    ·
      refine lv_iconst (v := 1) hx hb dX6_blow_237 (by decide) ?_
      refine lv_goto (tgt := 242) hx hb dX6_blow_238 (by decide) ?_
      refine lv_iadd hx hb dX6_blow_242 ?_
      refine z_iast Z Mz9 12 (h0 := ad 13) (n := 12) (f := σ 13) rfl (j := i) (x := ((σ 13) i) + 1) (by omega) (by decide) (ws' := mW o ad T (upS (upS (upS σ 7 ((blA (σ 7) (8 * i + nbr j) (8 * i + j) (imin fo (σ 7 (8 * i + nbr j) - 1))))) 13 (upd (σ 13) i (((σ 13) i) + 1))) 31 (fun _ => 0))) rfl dX6_blow_243 (fun Hp9 lc9 Mz9 => ?_)
      refine lv_aload_n hx hb dX6_blow_244 rfl (lv_at hl9 6 rfl) ?_
      refine z_getf Z Mz9 hin6 0 rfl rfl 10 (by decide) L34 rfl (v := .ref (ad 10)) rfl dX6_blow_245 ?_
      refine lv_iload_n hx hb dX6_blow_248 rfl (lv_at hl9 7 rfl) ?_
      refine z_iald Z Mz9 9 (h0 := ad 10) (n := 12) (f := σ 10) rfl (j := i) (by omega) (by decide) dX6_blow_249 ?_
      refine zn_top (y := co) (hco) ?_
      refine lv_sipush (v := 900) hx hb dX6_blow_250 (by decide) ?_
      refine lv_icmp_lt (tgt := 288) hx hb dX6_blow_253 (by decide) (fun c_7 => ?_) (fun c_7 => ?_)
      ·
        refine lv_aload_n hx hb dX6_blow_288 rfl (lv_at hl9 6 rfl) ?_
        refine lv_iload_n hx hb dX6_blow_289 rfl (lv_at hl9 7 rfl) ?_
        refine z_callAv (As := [.int (nI (i))]) (rest := []) (wc' := mW o ad T (upS (upS (upS (upS (upS σ 7 ((blA (σ 7) (8 * i + nbr j) (8 * i + j) (imin fo (σ 7 (8 * i + nbr j) - 1))))) 9 (upd (σ 9) i (clS (sk)))) 10 (upd (σ 10) i (wrm (clS (sk)) (co)))) 13 (upd (σ 13) i (((σ 13) i) + 1))) 31 (fun _ => 0))) Z Mz9 (cm_cools l D T o ad (upS (upS (upS σ 7 ((blA (σ 7) (8 * i + nbr j) (8 * i + j) (imin fo (σ 7 (8 * i + nbr j) - 1))))) 13 (upd (σ 13) i (((σ 13) i) + 1))) 31 (fun _ => 0)) (i) (sk) (co) (by omega) (h9) (hco)) (cwV 1 hts gX6_blow_X6_cools rfl rfl rfl (by decide +kernel) ⟨by decide, by decide⟩) (va_recv Z.2.1 Mz9.1 (ci := 7) (q0 := 0) rfl rfl) rfl hl9.1 (Nat.le_of_ble_eq_true rfl) dX6_blow_290 ⟨by decide, by decide⟩ rfl (fun Hp9 lc9 Mz9 => ?_)
        refine lv_iload hx hb dX6_blow_293 (lv_at hl9 0 rfl) ?_
        exact hret _ _ _ _ _ sl9 _ _ Mz9 (by simp only [lapv, grv, add_0, if_neg c_1, if_pos (Int32.not_le.mp c_4), if_pos c_7, ← h11, upd_id] <;> rfl) (rfl) (rfl) (Nat.le_refl _) (Nat.le_refl _) dX6_blow_295
      ·
        refine lv_aload_n hx hb dX6_blow_256 rfl (lv_at hl9 6 rfl) ?_
        refine z_getf Z Mz9 hin6 0 rfl rfl 11 (by decide) L37 rfl (v := .ref (ad 11)) rfl dX6_blow_257 ?_
        refine lv_iload_n hx hb dX6_blow_260 rfl (lv_at hl9 7 rfl) ?_
        refine lv_aload_n hx hb dX6_blow_261 rfl (lv_at hl9 6 rfl) ?_
        refine z_getf Z Mz9 hin6 0 rfl rfl 11 (by decide) L37 rfl (v := .ref (ad 11)) rfl dX6_blow_262 ?_
        refine lv_iload_n hx hb dX6_blow_265 rfl (lv_at hl9 7 rfl) ?_
        refine z_iald Z Mz9 10 (h0 := ad 11) (n := 12) (f := σ 11) rfl (j := i) (by omega) (by decide) dX6_blow_266 ?_
        refine zn_top (y := gr) (h11) ?_
        refine lv_iload hx hb dX6_blow_267 (lv_at hl9 10 rfl) ?_
        refine lv_isub hx hb dX6_blow_269 ?_
        refine lv_iconst (v := 5) hx hb dX6_blow_270 (by decide) ?_
        refine lv_icmp_ge (tgt := 278) hx hb dX6_blow_271 (by decide) (fun c_8 => ?_) (fun c_8 => ?_)
        ·
          refine lv_aload_n hx hb dX6_blow_278 rfl (lv_at hl9 6 rfl) ?_
          refine z_getf Z Mz9 hin6 0 rfl rfl 11 (by decide) L37 rfl (v := .ref (ad 11)) rfl dX6_blow_279 ?_
          refine lv_iload_n hx hb dX6_blow_282 rfl (lv_at hl9 7 rfl) ?_
          refine z_iald Z Mz9 10 (h0 := ad 11) (n := 12) (f := σ 11) rfl (j := i) (by omega) (by decide) dX6_blow_283 ?_
          refine zn_top (y := gr) (h11) ?_
          refine lv_iload hx hb dX6_blow_284 (lv_at hl9 10 rfl) ?_
          refine lv_isub hx hb dX6_blow_286 ?_
          refine z_iast Z Mz9 10 (h0 := ad 11) (n := 12) (f := σ 11) rfl (j := i) (x := gr - fo) (by omega) (by decide) (ws' := mW o ad T (upS (upS (upS (upS σ 7 ((blA (σ 7) (8 * i + nbr j) (8 * i + j) (imin fo (σ 7 (8 * i + nbr j) - 1))))) 11 (upd (σ 11) i (gr - fo))) 13 (upd (σ 13) i (((σ 13) i) + 1))) 31 (fun _ => 0))) rfl dX6_blow_287 (fun Hp9 lc9 Mz9 => ?_)
          refine lv_aload_n hx hb dX6_blow_288 rfl (lv_at hl9 6 rfl) ?_
          refine lv_iload_n hx hb dX6_blow_289 rfl (lv_at hl9 7 rfl) ?_
          refine z_callAv (As := [.int (nI (i))]) (rest := []) (wc' := mW o ad T (upS (upS (upS (upS (upS (upS σ 7 ((blA (σ 7) (8 * i + nbr j) (8 * i + j) (imin fo (σ 7 (8 * i + nbr j) - 1))))) 9 (upd (σ 9) i (clS (sk)))) 10 (upd (σ 10) i (wrm (clS (sk)) (co)))) 11 (upd (σ 11) i (gr - fo))) 13 (upd (σ 13) i (((σ 13) i) + 1))) 31 (fun _ => 0))) Z Mz9 (cm_cools l D T o ad (upS (upS (upS (upS σ 7 ((blA (σ 7) (8 * i + nbr j) (8 * i + j) (imin fo (σ 7 (8 * i + nbr j) - 1))))) 11 (upd (σ 11) i (gr - fo))) 13 (upd (σ 13) i (((σ 13) i) + 1))) 31 (fun _ => 0)) (i) (sk) (co) (by omega) (h9) (hco)) (cwV 1 hts gX6_blow_X6_cools rfl rfl rfl (by decide +kernel) ⟨by decide, by decide⟩) (va_recv Z.2.1 Mz9.1 (ci := 7) (q0 := 0) rfl rfl) rfl hl9.1 (Nat.le_of_ble_eq_true rfl) dX6_blow_290 ⟨by decide, by decide⟩ rfl (fun Hp9 lc9 Mz9 => ?_)
          refine lv_iload hx hb dX6_blow_293 (lv_at hl9 0 rfl) ?_
          exact hret _ _ _ _ _ sl9 _ _ Mz9 (by simp only [lapv, grv, add_0, if_neg c_1, if_pos (Int32.not_le.mp c_4), if_neg c_7, if_neg (Int32.not_lt.mpr c_8)]) (rfl) (rfl) (Nat.le_refl _) (Nat.le_refl _) dX6_blow_295
        ·
          refine lv_iconst (v := 5) hx hb dX6_blow_274 (by decide) ?_
          refine lv_goto (tgt := 287) hx hb dX6_blow_275 (by decide) ?_
          refine z_iast Z Mz9 10 (h0 := ad 11) (n := 12) (f := σ 11) rfl (j := i) (x := 5) (by omega) (by decide) (ws' := mW o ad T (upS (upS (upS (upS σ 7 ((blA (σ 7) (8 * i + nbr j) (8 * i + j) (imin fo (σ 7 (8 * i + nbr j) - 1))))) 11 (upd (σ 11) i 5)) 13 (upd (σ 13) i (((σ 13) i) + 1))) 31 (fun _ => 0))) rfl dX6_blow_287 (fun Hp9 lc9 Mz9 => ?_)
          refine lv_aload_n hx hb dX6_blow_288 rfl (lv_at hl9 6 rfl) ?_
          refine lv_iload_n hx hb dX6_blow_289 rfl (lv_at hl9 7 rfl) ?_
          refine z_callAv (As := [.int (nI (i))]) (rest := []) (wc' := mW o ad T (upS (upS (upS (upS (upS (upS σ 7 ((blA (σ 7) (8 * i + nbr j) (8 * i + j) (imin fo (σ 7 (8 * i + nbr j) - 1))))) 9 (upd (σ 9) i (clS (sk)))) 10 (upd (σ 10) i (wrm (clS (sk)) (co)))) 11 (upd (σ 11) i 5)) 13 (upd (σ 13) i (((σ 13) i) + 1))) 31 (fun _ => 0))) Z Mz9 (cm_cools l D T o ad (upS (upS (upS (upS σ 7 ((blA (σ 7) (8 * i + nbr j) (8 * i + j) (imin fo (σ 7 (8 * i + nbr j) - 1))))) 11 (upd (σ 11) i 5)) 13 (upd (σ 13) i (((σ 13) i) + 1))) 31 (fun _ => 0)) (i) (sk) (co) (by omega) (h9) (hco)) (cwV 1 hts gX6_blow_X6_cools rfl rfl rfl (by decide +kernel) ⟨by decide, by decide⟩) (va_recv Z.2.1 Mz9.1 (ci := 7) (q0 := 0) rfl rfl) rfl hl9.1 (Nat.le_of_ble_eq_true rfl) dX6_blow_290 ⟨by decide, by decide⟩ rfl (fun Hp9 lc9 Mz9 => ?_)
          refine lv_iload hx hb dX6_blow_293 (lv_at hl9 0 rfl) ?_
          exact hret _ _ _ _ _ sl9 _ _ Mz9 (by simp only [lapv, grv, add_0, if_neg c_1, if_pos (Int32.not_le.mp c_4), if_neg c_7, if_pos (Int32.not_le.mp c_8)]) (rfl) (rfl) (Nat.le_refl _) (Nat.le_refl _) dX6_blow_295
