/-! ===== laid by program ===== -/
set_option maxHeartbeats 4000000 in
set_option maxRecDepth 100000 in
theorem cm_quench_b1 (l : Launch) (D : va_G) (T : Nat → ClassId) (o : Nat) (ad : Nat → Nat) (σ : Nat → Nat → Int32) (nb : Nat) (set md : Int32) (h5 : σ 5 0 = nI nb) (hF : ¬ (0 < set ∧ set < (1 : Int32) <<< (nI nb &&& 31) ∧ ¬ bin md 0 1 = 0)) : ZI l yX6_quench wsX6_quench (zrm 2 49) D T (mW o ad T σ) (mW o ad T (upS σ 31 (fun _ => 1))) [.ref o, .int (set), .int (md)] (0) 0 0 := by
  refine z_inI (cc := cX6_quench) (maxL := 5) (rt := .int) (by decide +kernel) rfl (Nat.le_of_ble_eq_true rfl) ?_
  intro p e s m args below meth c sl9 A Q Z hnm Mz9 hl9 hret
  have Z : zC p s m args c cX6_quench 5 RX6 wsX6_quench D T A := Z
  have hx := Z.1.1
  have hb := Z.1.2.1
  have hts := Z.1.2.2.2.2
  have hin6 : ∀ w ∈ wsX60, w ∈ wsX6_quench := fun w h => List.mem_cons_of_mem _ (List.mem_append_right _ h)
  have hH0 : s.heap = s.heap := rfl
  have L93 := hts (.fieldLink RX6 93 "AnvilHouseModel" "billets" "I") (by decide +kernel)
  have L161 := hts (.fieldLink RX6 161 "AnvilHouseModel" "loads" "I") (by decide +kernel)
  have hl9 : lv_has sl9 5 [(0, .ref o), (1, .int (set)), (2, .int (md))] := hl9
  refine lv_iload_n hx hb dX6_quench_0 rfl (lv_at hl9 1 rfl) ?_
  refine lv_if_le (tgt := 27) hx hb dX6_quench_1 (by decide) (fun c_1 => ?_) (fun c_1 => ?_)
  ·
    refine lv_iconst (v := 0) hx hb dX6_quench_27 (by decide) ?_
    refine lv_istore_n (lv' := [(3, .int 0), (0, .ref o), (1, .int (set)), (2, .int (md))]) hx hb dX6_quench_28 rfl hl9 (by decide) rfl (fun sl9 hl9 => ?_)
    refine lv_aload_n hx hb dX6_quench_29 rfl (lv_at hl9 1 rfl) ?_
    refine lv_iload_n hx hb dX6_quench_30 rfl (lv_at hl9 0 rfl) ?_
    refine lv_iload_n hx hb dX6_quench_31 rfl (lv_at hl9 0 rfl) ?_
    refine lv_if_eq (tgt := 47) hx hb dX6_quench_32 (by decide) (fun _ => ?_) (fun h => absurd h (by decide))
    refine lv_iconst (v := 0) hx hb dX6_quench_47 (by decide) ?_
    refine lv_iconst (v := 1) hx hb dX6_quench_48 (by decide) ?_
    refine z_callAi (As := [.int 0, .int 0, .int 1]) (rest := []) (rv := if gth (0) (0) (1) = 0 then 1 else 0) (wc' := mW o ad T (upS σ 31 (fun _ => gth (0) (0) (1)))) Z Mz9 (cm_goes l D T o ad (σ) (0) (0) (1)) (cwV 3 hts gX6_quench_X6_goes rfl rfl rfl (by decide +kernel) ⟨by decide, by decide⟩) (va_recv Z.2.1 Mz9.1 (ci := 7) (q0 := 0) rfl rfl) rfl hl9.1 (Nat.le_of_ble_eq_true rfl) dX6_quench_49 ⟨by decide, by decide⟩ rfl (fun Hp9 lc9 Mz9 => ?_)
    refine zn_top (y := 0) (by rw [gth_1]; rfl) ?_
    refine lv_if_ne (tgt := 57) hx hb dX6_quench_52 (by decide) (fun h => absurd h (by decide)) (fun _ => ?_)
    refine lv_iconst (v := 0) hx hb dX6_quench_55 (by decide) ?_
    exact hret _ _ _ _ _ sl9 _ _ Mz9 (by rw [gth_1]) (rfl) (rfl) (Nat.le_refl _) (Nat.le_refl _) dX6_quench_56
  ·
    refine lv_iload_n hx hb dX6_quench_4 rfl (lv_at hl9 1 rfl) ?_
    refine lv_iconst (v := 1) hx hb dX6_quench_5 (by decide) ?_
    refine lv_aload_n hx hb dX6_quench_6 rfl (lv_at hl9 0 rfl) ?_
    refine z_getf Z Mz9 hin6 0 rfl rfl 5 (by decide) L93 rfl (v := .int (σ 5 0)) rfl dX6_quench_7 ?_
    refine zn_top (y := nI (nb)) (h5) ?_
    refine lv_ishl hx hb dX6_quench_10 ?_
    refine lv_icmp_ge (tgt := 27) hx hb dX6_quench_11 (by decide) (fun c_2 => ?_) (fun c_2 => ?_)
    ·
      refine lv_iconst (v := 0) hx hb dX6_quench_27 (by decide) ?_
      refine lv_istore_n (lv' := [(3, .int 0), (0, .ref o), (1, .int (set)), (2, .int (md))]) hx hb dX6_quench_28 rfl hl9 (by decide) rfl (fun sl9 hl9 => ?_)
      refine lv_aload_n hx hb dX6_quench_29 rfl (lv_at hl9 1 rfl) ?_
      refine lv_iload_n hx hb dX6_quench_30 rfl (lv_at hl9 0 rfl) ?_
      refine lv_iload_n hx hb dX6_quench_31 rfl (lv_at hl9 0 rfl) ?_
      refine lv_if_eq (tgt := 47) hx hb dX6_quench_32 (by decide) (fun _ => ?_) (fun h => absurd h (by decide))
      refine lv_iconst (v := 0) hx hb dX6_quench_47 (by decide) ?_
      refine lv_iconst (v := 1) hx hb dX6_quench_48 (by decide) ?_
      refine z_callAi (As := [.int 0, .int 0, .int 1]) (rest := []) (rv := if gth (0) (0) (1) = 0 then 1 else 0) (wc' := mW o ad T (upS σ 31 (fun _ => gth (0) (0) (1)))) Z Mz9 (cm_goes l D T o ad (σ) (0) (0) (1)) (cwV 3 hts gX6_quench_X6_goes rfl rfl rfl (by decide +kernel) ⟨by decide, by decide⟩) (va_recv Z.2.1 Mz9.1 (ci := 7) (q0 := 0) rfl rfl) rfl hl9.1 (Nat.le_of_ble_eq_true rfl) dX6_quench_49 ⟨by decide, by decide⟩ rfl (fun Hp9 lc9 Mz9 => ?_)
      refine zn_top (y := 0) (by rw [gth_1]; rfl) ?_
      refine lv_if_ne (tgt := 57) hx hb dX6_quench_52 (by decide) (fun h => absurd h (by decide)) (fun _ => ?_)
      refine lv_iconst (v := 0) hx hb dX6_quench_55 (by decide) ?_
      exact hret _ _ _ _ _ sl9 _ _ Mz9 (by rw [gth_1]) (rfl) (rfl) (Nat.le_refl _) (Nat.le_refl _) dX6_quench_56
    ·
      refine lv_iload_n hx hb dX6_quench_14 rfl (lv_at hl9 2 rfl) ?_
      refine lv_iconst (v := 0) hx hb dX6_quench_15 (by decide) ?_
      refine lv_iconst (v := 1) hx hb dX6_quench_16 (by decide) ?_
      refine z_callSi (As := [.int (md), .int 0, .int 1]) (rest := []) Z.1 (cm_in l (md) (0) (1)) (va_cwS 3 hts gX6_quench_X6_in rfl rfl rfl (by decide +kernel) ⟨by decide, by decide⟩) rfl hl9.1 (Nat.le_of_ble_eq_true rfl) dX6_quench_17 ⟨by decide, by decide⟩ rfl ?_
      refine lv_if_eq (tgt := 27) hx hb dX6_quench_20 (by decide) (fun _ => ?_) (fun h => absurd h (fun h => hF ⟨Int32.not_le.mp c_1, Int32.not_le.mp c_2, h⟩))
      refine lv_iconst (v := 0) hx hb dX6_quench_27 (by decide) ?_
      refine lv_istore_n (lv' := [(3, .int 0), (0, .ref o), (1, .int (set)), (2, .int (md))]) hx hb dX6_quench_28 rfl hl9 (by decide) rfl (fun sl9 hl9 => ?_)
      refine lv_aload_n hx hb dX6_quench_29 rfl (lv_at hl9 1 rfl) ?_
      refine lv_iload_n hx hb dX6_quench_30 rfl (lv_at hl9 0 rfl) ?_
      refine lv_iload_n hx hb dX6_quench_31 rfl (lv_at hl9 0 rfl) ?_
      refine lv_if_eq (tgt := 47) hx hb dX6_quench_32 (by decide) (fun _ => ?_) (fun h => absurd h (by decide))
      refine lv_iconst (v := 0) hx hb dX6_quench_47 (by decide) ?_
      refine lv_iconst (v := 1) hx hb dX6_quench_48 (by decide) ?_
      refine z_callAi (As := [.int 0, .int 0, .int 1]) (rest := []) (rv := if gth (0) (0) (1) = 0 then 1 else 0) (wc' := mW o ad T (upS σ 31 (fun _ => gth (0) (0) (1)))) Z Mz9 (cm_goes l D T o ad (σ) (0) (0) (1)) (cwV 3 hts gX6_quench_X6_goes rfl rfl rfl (by decide +kernel) ⟨by decide, by decide⟩) (va_recv Z.2.1 Mz9.1 (ci := 7) (q0 := 0) rfl rfl) rfl hl9.1 (Nat.le_of_ble_eq_true rfl) dX6_quench_49 ⟨by decide, by decide⟩ rfl (fun Hp9 lc9 Mz9 => ?_)
      refine zn_top (y := 0) (by rw [gth_1]; rfl) ?_
      refine lv_if_ne (tgt := 57) hx hb dX6_quench_52 (by decide) (fun h => absurd h (by decide)) (fun _ => ?_)
      refine lv_iconst (v := 0) hx hb dX6_quench_55 (by decide) ?_
      exact hret _ _ _ _ _ sl9 _ _ Mz9 (by rw [gth_1]) (rfl) (rfl) (Nat.le_refl _) (Nat.le_refl _) dX6_quench_56
set_option maxHeartbeats 4000000 in
set_option maxRecDepth 100000 in
theorem cm_quench_b2 (l : Launch) (D : va_G) (T : Nat → ClassId) (o : Nat) (ad : Nat → Nat) (σ : Nat → Nat → Int32) (nb : Nat) (set md : Int32) (hnb : nb ≤ 12) (h5 : σ 5 0 = nI nb) (h1 : 0 < set) (h2 : set < (1 : Int32) <<< (nI nb &&& 31)) (h3 : bin md 0 1 = 1) (hq : cqB (σ 10) (σ 14) set nb (if σ 24 0 < 20 then 1 else 0) = 0) : ZI l yX6_quench wsX6_quench (zrm 2 49) D T (mW o ad T σ) (mW o ad T (upS σ 31 (fun _ => 2))) [.ref o, .int (set), .int (md)] (0) 0 0 := by
  refine z_inI (cc := cX6_quench) (maxL := 5) (rt := .int) (by decide +kernel) rfl (Nat.le_of_ble_eq_true rfl) ?_
  intro p e s m args below meth c sl9 A Q Z hnm Mz9 hl9 hret
  have Z : zC p s m args c cX6_quench 5 RX6 wsX6_quench D T A := Z
  have hx := Z.1.1
  have hb := Z.1.2.1
  have hts := Z.1.2.2.2.2
  have hin6 : ∀ w ∈ wsX60, w ∈ wsX6_quench := fun w h => List.mem_cons_of_mem _ (List.mem_append_right _ h)
  have hH0 : s.heap = s.heap := rfl
  have L93 := hts (.fieldLink RX6 93 "AnvilHouseModel" "billets" "I") (by decide +kernel)
  have L161 := hts (.fieldLink RX6 161 "AnvilHouseModel" "loads" "I") (by decide +kernel)
  have hl9 : lv_has sl9 5 [(0, .ref o), (1, .int (set)), (2, .int (md))] := hl9
  refine lv_iload_n hx hb dX6_quench_0 rfl (lv_at hl9 1 rfl) ?_
  refine lv_if_le (tgt := 27) hx hb dX6_quench_1 (by decide) (fun h => absurd h (Int32.not_le.mpr h1)) (fun _ => ?_)
  refine lv_iload_n hx hb dX6_quench_4 rfl (lv_at hl9 1 rfl) ?_
  refine lv_iconst (v := 1) hx hb dX6_quench_5 (by decide) ?_
  refine lv_aload_n hx hb dX6_quench_6 rfl (lv_at hl9 0 rfl) ?_
  refine z_getf Z Mz9 hin6 0 rfl rfl 5 (by decide) L93 rfl (v := .int (σ 5 0)) rfl dX6_quench_7 ?_
  refine zn_top (y := nI (nb)) (h5) ?_
  refine lv_ishl hx hb dX6_quench_10 ?_
  refine lv_icmp_ge (tgt := 27) hx hb dX6_quench_11 (by decide) (fun h => absurd h (Int32.not_le.mpr h2)) (fun _ => ?_)
  refine lv_iload_n hx hb dX6_quench_14 rfl (lv_at hl9 2 rfl) ?_
  refine lv_iconst (v := 0) hx hb dX6_quench_15 (by decide) ?_
  refine lv_iconst (v := 1) hx hb dX6_quench_16 (by decide) ?_
  refine z_callSi (As := [.int (md), .int 0, .int 1]) (rest := []) Z.1 (cm_in l (md) (0) (1)) (va_cwS 3 hts gX6_quench_X6_in rfl rfl rfl (by decide +kernel) ⟨by decide, by decide⟩) rfl hl9.1 (Nat.le_of_ble_eq_true rfl) dX6_quench_17 ⟨by decide, by decide⟩ rfl ?_
  refine zn_top (y := 1) (h3) ?_
  refine lv_if_eq (tgt := 27) hx hb dX6_quench_20 (by decide) (fun h => absurd h (by decide)) (fun _ => ?_)
  refine lv_iconst (v := 1) hx hb dX6_quench_23 (by decide) ?_
  refine lv_goto (tgt := 28) hx hb dX6_quench_24 (by decide) ?_
  refine lv_istore_n (lv' := [(3, .int 1), (0, .ref o), (1, .int (set)), (2, .int (md))]) hx hb dX6_quench_28 rfl hl9 (by decide) rfl (fun sl9 hl9 => ?_)
  refine lv_aload_n hx hb dX6_quench_29 rfl (lv_at hl9 1 rfl) ?_
  refine lv_iload_n hx hb dX6_quench_30 rfl (lv_at hl9 0 rfl) ?_
  refine lv_iload_n hx hb dX6_quench_31 rfl (lv_at hl9 0 rfl) ?_
  refine lv_if_eq (tgt := 47) hx hb dX6_quench_32 (by decide) (fun h => absurd h (by decide)) (fun _ => ?_)
  refine lv_aload_n hx hb dX6_quench_35 rfl (lv_at hl9 1 rfl) ?_
  refine lv_iload_n hx hb dX6_quench_36 rfl (lv_at hl9 2 rfl) ?_
  refine z_callAi (As := [.int (set)]) (rest := [.int 1, .ref o]) (rv := cqB (σ 10) (σ 14) (set) nb (if σ 24 0 < 20 then 1 else 0)) (wc' := mW o ad T σ) Z Mz9 (cm_canQuench l D T o ad (σ) nb (set) (by omega) (h5)) (cwV 1 hts gX6_quench_X6_canQuench rfl rfl rfl (by decide +kernel) ⟨by decide, by decide⟩) (va_recv Z.2.1 Mz9.1 (ci := 7) (q0 := 0) rfl rfl) rfl hl9.1 (Nat.le_of_ble_eq_true rfl) dX6_quench_37 ⟨by decide, by decide⟩ rfl (fun Hp9 lc9 Mz9 => ?_)
  refine zn_top (y := 0) (hq) ?_
  refine lv_if_eq (tgt := 47) hx hb dX6_quench_40 (by decide) (fun _ => ?_) (fun h => absurd h (by decide))
  refine lv_iconst (v := 0) hx hb dX6_quench_47 (by decide) ?_
  refine lv_iconst (v := 1) hx hb dX6_quench_48 (by decide) ?_
  refine z_callAi (As := [.int 1, .int 0, .int 1]) (rest := []) (rv := if gth (1) (0) (1) = 0 then 1 else 0) (wc' := mW o ad T (upS σ 31 (fun _ => gth (1) (0) (1)))) Z Mz9 (cm_goes l D T o ad (σ) (1) (0) (1)) (cwV 3 hts gX6_quench_X6_goes rfl rfl rfl (by decide +kernel) ⟨by decide, by decide⟩) (va_recv Z.2.1 Mz9.1 (ci := 7) (q0 := 0) rfl rfl) rfl hl9.1 (Nat.le_of_ble_eq_true rfl) dX6_quench_49 ⟨by decide, by decide⟩ rfl (fun Hp9 lc9 Mz9 => ?_)
  refine zn_top (y := 0) (by decide) ?_
  refine lv_if_ne (tgt := 57) hx hb dX6_quench_52 (by decide) (fun h => absurd h (by decide)) (fun _ => ?_)
  refine lv_iconst (v := 0) hx hb dX6_quench_55 (by decide) ?_
  exact hret _ _ _ _ _ sl9 _ _ Mz9 (rfl) (rfl) (rfl) (Nat.le_refl _) (Nat.le_refl _) dX6_quench_56
set_option maxHeartbeats 4000000 in
set_option maxRecDepth 100000 in
theorem cm_quench_ok (l : Launch) (D : va_G) (T : Nat → ClassId) (o : Nat) (ad : Nat → Nat) (σ : Nat → Nat → Int32) (nb nl : Nat) (mo st9 : Nat → Nat) (set md : Int32) (hnb : nb ≤ 12) (h5 : σ 5 0 = nI nb) (h1 : 0 < set) (h2 : set < (1 : Int32) <<< (nI nb &&& 31)) (h3 : bin md 0 1 = 1) (h24 : σ 24 0 = nI nl) (hnl : nl < 20) (h6 : ∀ i, i < nb → σ 6 i = nI (mo i)) (hmo : ∀ i, i < nb → mo i < 20) (h4 : ∀ i, i < nb → σ 4 (mo i) = nI (st9 i)) (hst : ∀ i, i < nb → st9 i < 4) (hq : ¬ cqB (σ 10) (σ 14) set nb (if σ 24 0 < 20 then 1 else 0) = 0) : ZI l yX6_quench wsX6_quench (zrm 2 49) D T (mW o ad T σ) (mW o ad T (upS (qSt (upS σ 31 (fun _ => 0)) st9 set md nb) 24 (fun _ => nI (nl + 1)))) [.ref o, .int (set), .int (md)] (nI nl) 0 0 := by
  refine z_inI (cc := cX6_quench) (maxL := 5) (rt := .int) (by decide +kernel) rfl (Nat.le_of_ble_eq_true rfl) ?_
  intro p e s m args below meth c sl9 A Q Z hnm Mz9 hl9 hret
  have Z : zC p s m args c cX6_quench 5 RX6 wsX6_quench D T A := Z
  have hx := Z.1.1
  have hb := Z.1.2.1
  have hts := Z.1.2.2.2.2
  have hin6 : ∀ w ∈ wsX60, w ∈ wsX6_quench := fun w h => List.mem_cons_of_mem _ (List.mem_append_right _ h)
  have hH0 : s.heap = s.heap := rfl
  have L93 := hts (.fieldLink RX6 93 "AnvilHouseModel" "billets" "I") (by decide +kernel)
  have L161 := hts (.fieldLink RX6 161 "AnvilHouseModel" "loads" "I") (by decide +kernel)
  have hl9 : lv_has sl9 5 [(0, .ref o), (1, .int (set)), (2, .int (md))] := hl9
  refine lv_iload_n hx hb dX6_quench_0 rfl (lv_at hl9 1 rfl) ?_
  refine lv_if_le (tgt := 27) hx hb dX6_quench_1 (by decide) (fun h => absurd h (Int32.not_le.mpr h1)) (fun _ => ?_)
  refine lv_iload_n hx hb dX6_quench_4 rfl (lv_at hl9 1 rfl) ?_
  refine lv_iconst (v := 1) hx hb dX6_quench_5 (by decide) ?_
  refine lv_aload_n hx hb dX6_quench_6 rfl (lv_at hl9 0 rfl) ?_
  refine z_getf Z Mz9 hin6 0 rfl rfl 5 (by decide) L93 rfl (v := .int (σ 5 0)) rfl dX6_quench_7 ?_
  refine zn_top (y := nI (nb)) (h5) ?_
  refine lv_ishl hx hb dX6_quench_10 ?_
  refine lv_icmp_ge (tgt := 27) hx hb dX6_quench_11 (by decide) (fun h => absurd h (Int32.not_le.mpr h2)) (fun _ => ?_)
  refine lv_iload_n hx hb dX6_quench_14 rfl (lv_at hl9 2 rfl) ?_
  refine lv_iconst (v := 0) hx hb dX6_quench_15 (by decide) ?_
  refine lv_iconst (v := 1) hx hb dX6_quench_16 (by decide) ?_
  refine z_callSi (As := [.int (md), .int 0, .int 1]) (rest := []) Z.1 (cm_in l (md) (0) (1)) (va_cwS 3 hts gX6_quench_X6_in rfl rfl rfl (by decide +kernel) ⟨by decide, by decide⟩) rfl hl9.1 (Nat.le_of_ble_eq_true rfl) dX6_quench_17 ⟨by decide, by decide⟩ rfl ?_
  refine zn_top (y := 1) (h3) ?_
  refine lv_if_eq (tgt := 27) hx hb dX6_quench_20 (by decide) (fun h => absurd h (by decide)) (fun _ => ?_)
  refine lv_iconst (v := 1) hx hb dX6_quench_23 (by decide) ?_
  refine lv_goto (tgt := 28) hx hb dX6_quench_24 (by decide) ?_
  refine lv_istore_n (lv' := [(3, .int 1), (0, .ref o), (1, .int (set)), (2, .int (md))]) hx hb dX6_quench_28 rfl hl9 (by decide) rfl (fun sl9 hl9 => ?_)
  refine lv_aload_n hx hb dX6_quench_29 rfl (lv_at hl9 1 rfl) ?_
  refine lv_iload_n hx hb dX6_quench_30 rfl (lv_at hl9 0 rfl) ?_
  refine lv_iload_n hx hb dX6_quench_31 rfl (lv_at hl9 0 rfl) ?_
  refine lv_if_eq (tgt := 47) hx hb dX6_quench_32 (by decide) (fun h => absurd h (by decide)) (fun _ => ?_)
  refine lv_aload_n hx hb dX6_quench_35 rfl (lv_at hl9 1 rfl) ?_
  refine lv_iload_n hx hb dX6_quench_36 rfl (lv_at hl9 2 rfl) ?_
  refine z_callAi (As := [.int (set)]) (rest := [.int 1, .ref o]) (rv := cqB (σ 10) (σ 14) (set) nb (if σ 24 0 < 20 then 1 else 0)) (wc' := mW o ad T σ) Z Mz9 (cm_canQuench l D T o ad (σ) nb (set) (by omega) (h5)) (cwV 1 hts gX6_quench_X6_canQuench rfl rfl rfl (by decide +kernel) ⟨by decide, by decide⟩) (va_recv Z.2.1 Mz9.1 (ci := 7) (q0 := 0) rfl rfl) rfl hl9.1 (Nat.le_of_ble_eq_true rfl) dX6_quench_37 ⟨by decide, by decide⟩ rfl (fun Hp9 lc9 Mz9 => ?_)
  refine lv_if_eq (tgt := 47) hx hb dX6_quench_40 (by decide) (fun h => absurd h (hq)) (fun _ => ?_)
  refine lv_iconst (v := 1) hx hb dX6_quench_43 (by decide) ?_
  refine lv_goto (tgt := 48) hx hb dX6_quench_44 (by decide) ?_
  refine lv_iconst (v := 1) hx hb dX6_quench_48 (by decide) ?_
  refine z_callAi (As := [.int 1, .int 1, .int 1]) (rest := []) (rv := if gth (1) (1) (1) = 0 then 1 else 0) (wc' := mW o ad T (upS σ 31 (fun _ => 0))) Z Mz9 (cm_goes l D T o ad (σ) (1) (1) (1)) (cwV 3 hts gX6_quench_X6_goes rfl rfl rfl (by decide +kernel) ⟨by decide, by decide⟩) (va_recv Z.2.1 Mz9.1 (ci := 7) (q0 := 0) rfl rfl) rfl hl9.1 (Nat.le_of_ble_eq_true rfl) dX6_quench_49 ⟨by decide, by decide⟩ rfl (fun Hp9 lc9 Mz9 => ?_)
  refine zn_top (y := 1) (by decide) ?_
  refine lv_if_ne (tgt := 57) hx hb dX6_quench_52 (by decide) (fun _ => ?_) (fun h => absurd h (by decide))
  obtain ⟨τ, hτ⟩ : ∃ z, z = upS σ 31 (fun _ => 0) := ⟨_, rfl⟩
  have Mz9 : zM D A s.heap (mW o ad T τ) _ _ := zM_w (by rw [hτ]) Mz9
  have h5t : τ 5 0 = nI nb := by rw [hτ]; exact h5
  have h24t : τ 24 0 = nI nl := by rw [hτ]; exact h24
  have h6t : ∀ i, i < nb → τ 6 i = nI (mo i) := by rw [hτ]; exact h6
  have h4t : ∀ i, i < nb → τ 4 (mo i) = nI (st9 i) := by rw [hτ]; exact h4
  refine lv_iconst (v := 0) hx hb dX6_quench_57 (by decide) ?_
  refine lv_istore (lv' := [(4, .int 0), (3, .int 1), (0, .ref o), (1, .int (set)), (2, .int (md))]) hx hb dX6_quench_58 hl9 (by decide) rfl (fun sl9 hl9 => ?_)
  have LP60_1 : ∀ (n60 k : Nat), k + n60 = nb → ∀ (Hp9 : Heap) (lc9 : List Loc) (sl9 : Array Slot), zM D A s.heap (mW o ad T (qSt τ st9 set md (k))) Hp9 lc9 → lv_has sl9 5 [(0, .ref o), (1, .int (set)), (2, .int (md)), (3, .int 1), (4, .int (nI (k)))] → W p l e (zrm 2 49) s m args below meth c Hp9 lc9 0 0 Q (F0 m 60 sl9 []) := by
    intro n60
    induction n60 with
    | zero =>
      intro k hk9 Hp9 lc9 sl9 Mz9 hl9
      obtain rfl : nb = k := by omega
      refine lv_iload hx hb dX6_quench_60 (lv_at hl9 4 rfl) ?_
      refine lv_aload_n hx hb dX6_quench_62 rfl (lv_at hl9 0 rfl) ?_
      refine z_getf Z Mz9 hin6 0 rfl rfl 5 (by decide) L93 rfl (v := .int ((qSt τ st9 set md (nb)) 5 0)) rfl dX6_quench_63 ?_
      refine zn_top (y := nI (nb)) (by rw [qSt_keep τ st9 set md (a := 5) (by decide) _]; exact h5t) ?_
      refine zn_icmp_ge (a := nb) (b := nb) (tgt := 92) (by omega) (by omega) hx hb dX6_quench_66 (by decide) (fun _ => ?_) (fun h => absurd h (by omega))
      refine lv_aload_n hx hb dX6_quench_92 rfl (lv_at hl9 0 rfl) ?_
      refine lv_dup hx hb dX6_quench_93 rfl ?_
      refine z_getf Z Mz9 hin6 0 rfl rfl 24 (by decide) L161 rfl (v := .int ((qSt τ st9 set md (nb)) 24 0)) rfl dX6_quench_94 ?_
      refine zn_top (y := nI (nl)) (by rw [qSt_keep τ st9 set md (a := 24) (by decide) _]; exact h24t) ?_
      refine lv_iconst (v := 1) hx hb dX6_quench_97 (by decide) ?_
      refine zn_iadd (a := nl) (b := 1) hx hb dX6_quench_98 ?_
      refine z_putf Z Mz9 hin6 tyX6 tyX6_ok nmX6 0 rfl rfl 24 (by decide) L161 rfl rfl (ty := .int) rfl rfl rfl (Nat.le_of_ble_eq_true rfl) (ws' := mW o ad T (upS (qSt τ st9 set md (nb)) 24 (fun _ => nI (nl + 1)))) rfl dX6_quench_99 (fun Hp9 lc9 Mz9 => ?_)
      refine lv_aload_n hx hb dX6_quench_102 rfl (lv_at hl9 0 rfl) ?_
      refine z_getf Z Mz9 hin6 0 rfl rfl 24 (by decide) L161 rfl (v := .int (nI (nl + 1))) rfl dX6_quench_103 ?_
      refine lv_iconst (v := 1) hx hb dX6_quench_106 (by decide) ?_
      refine zn_isub (a := nl + 1) (b := 1) (by omega) hx hb dX6_quench_107 ?_
      exact hret _ _ _ _ _ sl9 _ _ Mz9 (by rw [hτ]) (by rw [Nat.add_sub_cancel]) (rfl) (Nat.le_refl _) (Nat.le_refl _) dX6_quench_108
    | succ n60 ih60 =>
      intro k hk9 Hp9 lc9 sl9 Mz9 hl9
      refine lv_iload hx hb dX6_quench_60 (lv_at hl9 4 rfl) ?_
      refine lv_aload_n hx hb dX6_quench_62 rfl (lv_at hl9 0 rfl) ?_
      refine z_getf Z Mz9 hin6 0 rfl rfl 5 (by decide) L93 rfl (v := .int ((qSt τ st9 set md (k)) 5 0)) rfl dX6_quench_63 ?_
      refine zn_top (y := nI (nb)) (by rw [qSt_keep τ st9 set md (a := 5) (by decide) _]; exact h5t) ?_
      refine zn_icmp_ge (a := k) (b := nb) (tgt := 92) (by omega) (by omega) hx hb dX6_quench_66 (by decide) (fun h => absurd h (by omega)) (fun _ => ?_)
      refine lv_iload_n hx hb dX6_quench_69 rfl (lv_at hl9 1 rfl) ?_
      refine lv_iload hx hb dX6_quench_70 (lv_at hl9 4 rfl) ?_
      refine lv_ishr hx hb dX6_quench_72 ?_
      refine lv_iconst (v := 1) hx hb dX6_quench_73 (by decide) ?_
      refine lv_iand hx hb dX6_quench_74 ?_
      refine lv_iconst (v := 1) hx hb dX6_quench_75 (by decide) ?_
      refine lv_icmp_ne (tgt := 86) hx hb dX6_quench_76 (by decide) (fun c_1 => ?_) (fun c_1 => ?_)
      ·
        refine lv_iinc (v := nI (k + 1)) (lv' := [(4, .int (nI (k + 1))), (0, .ref o), (1, .int (set)), (2, .int (md)), (3, .int 1)]) hx hb dX6_quench_86 hl9 (k := 4) rfl (nI_add (k) 1) (by decide) rfl (fun sl9 hl9 => ?_)
        refine lv_goto (tgt := 60) hx hb dX6_quench_89 (by decide) ?_
        exact ih60 (k + 1) (by omega)  _ _ _ (zM_w (by rw [qSt, if_neg c_1]) Mz9) (lv_sub hl9 [1, 2, 3, 4, 0] rfl)
      ·
        refine lv_aload_n hx hb dX6_quench_79 rfl (lv_at hl9 0 rfl) ?_
        refine lv_iload hx hb dX6_quench_80 (lv_at hl9 4 rfl) ?_
        refine lv_iload_n hx hb dX6_quench_82 rfl (lv_at hl9 2 rfl) ?_
        refine z_callAv (As := [.int (nI (k)), .int (md)]) (rest := []) (wc' := mW o ad T (qOne (qSt τ st9 set md (k)) (k) (st9 k) (md))) Z Mz9 (cm_quenches l D T o ad (qSt τ st9 set md (k)) (k) (mo k) (st9 k) (md) (by omega) (by rw [qSt_keep τ st9 set md (a := 6) (by decide) _]; exact h6t k (by omega)) (hmo k (by omega)) (by rw [qSt_keep τ st9 set md (a := 4) (by decide) _]; exact h4t k (by omega)) (hst k (by omega))) (cwV 2 hts gX6_quench_X6_quenches rfl rfl rfl (by decide +kernel) ⟨by decide, by decide⟩) (va_recv Z.2.1 Mz9.1 (ci := 7) (q0 := 0) rfl rfl) rfl hl9.1 (Nat.le_of_ble_eq_true rfl) dX6_quench_83 ⟨by decide, by decide⟩ rfl (fun Hp9 lc9 Mz9 => ?_)
        refine lv_iinc (v := nI (k + 1)) (lv' := [(4, .int (nI (k + 1))), (0, .ref o), (1, .int (set)), (2, .int (md)), (3, .int 1)]) hx hb dX6_quench_86 hl9 (k := 4) rfl (nI_add (k) 1) (by decide) rfl (fun sl9 hl9 => ?_)
        refine lv_goto (tgt := 60) hx hb dX6_quench_89 (by decide) ?_
        exact ih60 (k + 1) (by omega)  _ _ _ (zM_w (by rw [qSt, if_pos c_1]) Mz9) (lv_sub hl9 [1, 2, 3, 4, 0] rfl)
  exact LP60_1 (nb - 0) (0) (by omega)  _ _ _ Mz9 (lv_sub hl9 [2, 3, 4, 1, 0] rfl)
