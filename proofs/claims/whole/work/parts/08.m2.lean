/-! ===== laid by program ===== -/
set_option maxHeartbeats 4000000 in
set_option maxRecDepth 100000 in
theorem cm_cool_bad (l : Launch) (D : va_G) (T : Nat → ClassId) (o : Nat) (ad : Nat → Nat) (σ : Nat → Nat → Int32) (b mi : Int32) (hg : ¬ gth (bin (b) 0 (σ 5 0 - 1)) (bin (mi) (1) (200)) (1) = 0) : ZI l yX6_cool wsX6_cool (zrm 2 43) D T (mW o ad T σ) (mW o ad T (upS σ 31 (fun _ => gth (bin (b) 0 (σ 5 0 - 1)) (bin (mi) (1) (200)) (1)))) [.ref o, .int (b), .int (mi)] (0) 0 0 := by
  refine z_inI (cc := cX6_cool) (maxL := 4) (rt := .int) (by decide +kernel) rfl (Nat.le_of_ble_eq_true rfl) ?_
  intro p e s m args below meth c sl9 A Q Z hnm Mz9 hl9 hret
  have Z : zC p s m args c cX6_cool 4 RX6 wsX6_cool D T A := Z
  have hx := Z.1.1
  have hb := Z.1.2.1
  have hts := Z.1.2.2.2.2
  have hin6 : ∀ w ∈ wsX60, w ∈ wsX6_cool := fun w h => List.mem_cons_of_mem _ (List.mem_append_right _ h)
  have hH0 : s.heap = s.heap := rfl
  have L34 := hts (.fieldLink RX6 34 "AnvilHouseModel" "core" "[I") (by decide +kernel)
  have hl9 : lv_has sl9 4 [(0, .ref o), (1, .int (b)), (2, .int (mi))] := hl9
  refine lv_aload_n hx hb dX6_cool_0 rfl (lv_at hl9 0 rfl) ?_
  refine lv_aload_n hx hb dX6_cool_1 rfl (lv_at hl9 0 rfl) ?_
  refine lv_iload_n hx hb dX6_cool_2 rfl (lv_at hl9 1 rfl) ?_
  refine z_callAi (As := [.int (b)]) (rest := [.ref o]) (rv := bin (b) 0 (σ 5 0 - 1)) (wc' := mW o ad T σ) Z Mz9 (cm_isBillet l D T o ad (σ) (b)) (cwV 1 hts gX6_cool_X6_isBillet rfl rfl rfl (by decide +kernel) ⟨by decide, by decide⟩) (va_recv Z.2.1 Mz9.1 (ci := 7) (q0 := 0) rfl rfl) rfl hl9.1 (Nat.le_of_ble_eq_true rfl) dX6_cool_3 ⟨by decide, by decide⟩ rfl (fun Hp9 lc9 Mz9 => ?_)
  refine lv_iload_n hx hb dX6_cool_6 rfl (lv_at hl9 2 rfl) ?_
  refine lv_iconst (v := 1) hx hb dX6_cool_7 (by decide) ?_
  refine lv_sipush (v := 200) hx hb dX6_cool_8 (by decide) ?_
  refine z_callSi (As := [.int (mi), .int 1, .int 200]) (rest := [.int (bin (b) 0 (σ 5 0 - 1)), .ref o]) Z.1 (cm_in l (mi) (1) (200)) (va_cwS 3 hts gX6_cool_X6_in rfl rfl rfl (by decide +kernel) ⟨by decide, by decide⟩) rfl hl9.1 (Nat.le_of_ble_eq_true rfl) dX6_cool_11 ⟨by decide, by decide⟩ rfl ?_
  refine lv_iconst (v := 1) hx hb dX6_cool_14 (by decide) ?_
  refine z_callAi (As := [.int (bin (b) 0 (σ 5 0 - 1)), .int (bin (mi) (1) (200)), .int 1]) (rest := []) (rv := if gth (bin (b) 0 (σ 5 0 - 1)) (bin (mi) (1) (200)) (1) = 0 then 1 else 0) (wc' := mW o ad T (upS σ 31 (fun _ => gth (bin (b) 0 (σ 5 0 - 1)) (bin (mi) (1) (200)) (1)))) Z Mz9 (cm_goes l D T o ad (σ) (bin (b) 0 (σ 5 0 - 1)) (bin (mi) (1) (200)) (1)) (cwV 3 hts gX6_cool_X6_goes rfl rfl rfl (by decide +kernel) ⟨by decide, by decide⟩) (va_recv Z.2.1 Mz9.1 (ci := 7) (q0 := 0) rfl rfl) rfl hl9.1 (Nat.le_of_ble_eq_true rfl) dX6_cool_15 ⟨by decide, by decide⟩ rfl (fun Hp9 lc9 Mz9 => ?_)
  refine zn_top (y := 0) (if_neg hg) ?_
  refine lv_if_ne (tgt := 23) hx hb dX6_cool_18 (by decide) (fun h => absurd h (by decide)) (fun _ => ?_)
  refine lv_iconst (v := 0) hx hb dX6_cool_21 (by decide) ?_
  exact hret _ _ _ _ _ sl9 _ _ Mz9 (rfl) (rfl) (rfl) (Nat.le_refl _) (Nat.le_refl _) dX6_cool_22
set_option maxHeartbeats 4000000 in
set_option maxRecDepth 100000 in
theorem cm_cool_ok (l : Launch) (D : va_G) (T : Nat → ClassId) (o : Nat) (ad : Nat → Nat) (σ : Nat → Nat → Int32) (i n : Nat) (sk co : Int32) (hi : i < 12) (hn : n ≤ 200) (h1 : bin (nI i) 0 (σ 5 0 - 1) = 1) (h2 : bin (nI n) 1 200 = 1) (h9 : σ 9 i = sk) (h10 : σ 10 i = co) : ZI l yX6_cool wsX6_cool (zrm 2 43) D T (mW o ad T σ) (mW o ad T (upS (upS (upS σ 9 (upd (σ 9) i (cSk sk n))) 10 (upd (σ 10) i (cCo sk co n))) 31 (fun _ => 0))) [.ref o, .int (nI (i)), .int (nI (n))] (cCo sk co n) 0 0 := by
  refine z_inI (cc := cX6_cool) (maxL := 4) (rt := .int) (by decide +kernel) rfl (Nat.le_of_ble_eq_true rfl) ?_
  intro p e s m args below meth c sl9 A Q Z hnm Mz9 hl9 hret
  have Z : zC p s m args c cX6_cool 4 RX6 wsX6_cool D T A := Z
  have hx := Z.1.1
  have hb := Z.1.2.1
  have hts := Z.1.2.2.2.2
  have hin6 : ∀ w ∈ wsX60, w ∈ wsX6_cool := fun w h => List.mem_cons_of_mem _ (List.mem_append_right _ h)
  have hH0 : s.heap = s.heap := rfl
  have L34 := hts (.fieldLink RX6 34 "AnvilHouseModel" "core" "[I") (by decide +kernel)
  have hl9 : lv_has sl9 4 [(0, .ref o), (1, .int (nI (i))), (2, .int (nI (n)))] := hl9
  refine lv_aload_n hx hb dX6_cool_0 rfl (lv_at hl9 0 rfl) ?_
  refine lv_aload_n hx hb dX6_cool_1 rfl (lv_at hl9 0 rfl) ?_
  refine lv_iload_n hx hb dX6_cool_2 rfl (lv_at hl9 1 rfl) ?_
  refine z_callAi (As := [.int (nI (i))]) (rest := [.ref o]) (rv := bin (nI (i)) 0 (σ 5 0 - 1)) (wc' := mW o ad T σ) Z Mz9 (cm_isBillet l D T o ad (σ) (nI (i))) (cwV 1 hts gX6_cool_X6_isBillet rfl rfl rfl (by decide +kernel) ⟨by decide, by decide⟩) (va_recv Z.2.1 Mz9.1 (ci := 7) (q0 := 0) rfl rfl) rfl hl9.1 (Nat.le_of_ble_eq_true rfl) dX6_cool_3 ⟨by decide, by decide⟩ rfl (fun Hp9 lc9 Mz9 => ?_)
  refine zn_top (y := 1) (h1) ?_
  refine lv_iload_n hx hb dX6_cool_6 rfl (lv_at hl9 2 rfl) ?_
  refine lv_iconst (v := 1) hx hb dX6_cool_7 (by decide) ?_
  refine lv_sipush (v := 200) hx hb dX6_cool_8 (by decide) ?_
  refine z_callSi (As := [.int (nI (n)), .int 1, .int 200]) (rest := [.int 1, .ref o]) Z.1 (cm_in l (nI (n)) (1) (200)) (va_cwS 3 hts gX6_cool_X6_in rfl rfl rfl (by decide +kernel) ⟨by decide, by decide⟩) rfl hl9.1 (Nat.le_of_ble_eq_true rfl) dX6_cool_11 ⟨by decide, by decide⟩ rfl ?_
  refine zn_top (y := 1) (h2) ?_
  refine lv_iconst (v := 1) hx hb dX6_cool_14 (by decide) ?_
  refine z_callAi (As := [.int 1, .int 1, .int 1]) (rest := []) (rv := if gth (1) (1) (1) = 0 then 1 else 0) (wc' := mW o ad T (upS σ 31 (fun _ => 0))) Z Mz9 (cm_goes l D T o ad (σ) (1) (1) (1)) (cwV 3 hts gX6_cool_X6_goes rfl rfl rfl (by decide +kernel) ⟨by decide, by decide⟩) (va_recv Z.2.1 Mz9.1 (ci := 7) (q0 := 0) rfl rfl) rfl hl9.1 (Nat.le_of_ble_eq_true rfl) dX6_cool_15 ⟨by decide, by decide⟩ rfl (fun Hp9 lc9 Mz9 => ?_)
  refine zn_top (y := 1) (by decide) ?_
  refine lv_if_ne (tgt := 23) hx hb dX6_cool_18 (by decide) (fun _ => ?_) (fun h => absurd h (by decide))
  refine lv_iconst (v := 0) hx hb dX6_cool_23 (by decide) ?_
  refine lv_istore_n (lv' := [(3, .int 0), (0, .ref o), (1, .int (nI (i))), (2, .int (nI (n)))]) hx hb dX6_cool_24 rfl hl9 (by decide) rfl (fun sl9 hl9 => ?_)
  have LP25_1 : ∀ (n25 k : Nat), k + n25 = n → ∀ (Hp9 : Heap) (lc9 : List Loc) (sl9 : Array Slot), zM D A s.heap (mW o ad T (upS (upS (upS σ 9 (upd (σ 9) i (cSk sk (k)))) 10 (upd (σ 10) i (cCo sk co (k)))) 31 (fun _ => 0))) Hp9 lc9 → lv_has sl9 4 [(0, .ref o), (1, .int (nI (i))), (2, .int (nI (n))), (3, .int (nI (k)))] → W p l e (zrm 2 43) s m args below meth c Hp9 lc9 0 0 Q (F0 m 25 sl9 []) := by
    intro n25
    induction n25 with
    | zero =>
      intro k hk9 Hp9 lc9 sl9 Mz9 hl9
      obtain rfl : n = k := by omega
      refine lv_iload_n hx hb dX6_cool_25 rfl (lv_at hl9 3 rfl) ?_
      refine lv_iload_n hx hb dX6_cool_26 rfl (lv_at hl9 2 rfl) ?_
      refine zn_icmp_ge (a := n) (b := n) (tgt := 41) (by omega) (by omega) hx hb dX6_cool_27 (by decide) (fun _ => ?_) (fun h => absurd h (by omega))
      refine lv_aload_n hx hb dX6_cool_41 rfl (lv_at hl9 0 rfl) ?_
      refine z_getf Z Mz9 hin6 0 rfl rfl 10 (by decide) L34 rfl (v := .ref (ad 10)) rfl dX6_cool_42 ?_
      refine lv_iload_n hx hb dX6_cool_45 rfl (lv_at hl9 1 rfl) ?_
      refine z_iald Z Mz9 9 (h0 := ad 10) (n := 12) (f := upd (σ 10) i (cCo sk co (n))) rfl (j := i) (by omega) (by decide) dX6_cool_46 ?_
      refine zn_top (y := cCo sk co (n)) (upd_same _ _ _) ?_
      exact hret _ _ _ _ _ sl9 _ _ Mz9 (rfl) (rfl) (rfl) (Nat.le_refl _) (Nat.le_refl _) dX6_cool_47
    | succ n25 ih25 =>
      intro k hk9 Hp9 lc9 sl9 Mz9 hl9
      refine lv_iload_n hx hb dX6_cool_25 rfl (lv_at hl9 3 rfl) ?_
      refine lv_iload_n hx hb dX6_cool_26 rfl (lv_at hl9 2 rfl) ?_
      refine zn_icmp_ge (a := k) (b := n) (tgt := 41) (by omega) (by omega) hx hb dX6_cool_27 (by decide) (fun h => absurd h (by omega)) (fun _ => ?_)
      refine lv_aload_n hx hb dX6_cool_30 rfl (lv_at hl9 0 rfl) ?_
      refine lv_iload_n hx hb dX6_cool_31 rfl (lv_at hl9 1 rfl) ?_
      refine z_callAv (As := [.int (nI (i))]) (rest := []) (wc' := mW o ad T (upS (upS (upS σ 9 (upd (upd (σ 9) i (cSk sk (k))) i (clS (cSk sk (k))))) 10 (upd (upd (σ 10) i (cCo sk co (k))) i (wrm (clS (cSk sk (k))) (cCo sk co (k))))) 31 (fun _ => 0))) Z Mz9 (cm_cools l D T o ad (upS (upS (upS σ 9 (upd (σ 9) i (cSk sk (k)))) 10 (upd (σ 10) i (cCo sk co (k)))) 31 (fun _ => 0)) (i) (cSk sk (k)) (cCo sk co (k)) (by omega) (upd_same _ _ _) (upd_same _ _ _)) (cwV 1 hts gX6_cool_X6_cools rfl rfl rfl (by decide +kernel) ⟨by decide, by decide⟩) (va_recv Z.2.1 Mz9.1 (ci := 7) (q0 := 0) rfl rfl) rfl hl9.1 (Nat.le_of_ble_eq_true rfl) dX6_cool_32 ⟨by decide, by decide⟩ rfl (fun Hp9 lc9 Mz9 => ?_)
      refine lv_iinc (v := nI (k + 1)) (lv' := [(3, .int (nI (k + 1))), (0, .ref o), (1, .int (nI (i))), (2, .int (nI (n)))]) hx hb dX6_cool_35 hl9 (k := 3) rfl (nI_add (k) 1) (by decide) rfl (fun sl9 hl9 => ?_)
      refine lv_goto (tgt := 25) hx hb dX6_cool_38 (by decide) ?_
      exact ih25 (k + 1) (by omega)  _ _ _ (zM_w (by simp only [cSk, cCo, upd_upd]) Mz9) (lv_sub hl9 [1, 2, 3, 0] rfl)
  exact LP25_1 (n - 0) (0) (by omega)  _ _ _ (zM_w (by simp only [cSk, cCo, ← h9, ← h10, upd_id, upS_id] <;> rfl) Mz9) (lv_sub hl9 [1, 2, 3, 0] rfl)
set_option maxHeartbeats 4000000 in
set_option maxRecDepth 100000 in
theorem cm_steel_bad (l : Launch) (D : va_G) (T : Nat → ClassId) (o : Nat) (ad : Nat → Nat) (σ : Nat → Nat → Int32) (t many how less : Int32) (hg : ¬ gth (bin (t) (0) (3)) (if bin (many) (1) (9) = 0 then 0 else if bin (how) (20) (70) = 0 then 0 else if bin (less) (0) (9) = 0 then 0 else 1) (1) = 0) : ZV l yX6_steel wsX6_steel (zrm 1 23) D T (mW o ad T σ) (mW o ad T (upS σ 31 (fun _ => gth (bin (t) (0) (3)) (if bin (many) (1) (9) = 0 then 0 else if bin (how) (20) (70) = 0 then 0 else if bin (less) (0) (9) = 0 then 0 else 1) (1)))) [.ref o, .int (t), .int (many), .int (how), .int (less)] 0 0 := by
  refine z_inV (cc := cX6_steel) (maxL := 5) (by decide +kernel) rfl (Nat.le_of_ble_eq_true rfl) ?_
  intro p e s m args below meth c sl9 A Q Z hnm Mz9 hl9 hret
  have Z : zC p s m args c cX6_steel 5 RX6 wsX6_steel D T A := Z
  have hx := Z.1.1
  have hb := Z.1.2.1
  have hts := Z.1.2.2.2.2
  have hin6 : ∀ w ∈ wsX60, w ∈ wsX6_steel := fun w h => List.mem_cons_of_mem _ (List.mem_append_right _ h)
  have hH0 : s.heap = s.heap := rfl
  have L7 := hts (.fieldLink RX6 7 "AnvilHouseModel" "mayHeat" "[I") (by decide +kernel)
  have L13 := hts (.fieldLink RX6 13 "AnvilHouseModel" "hard" "[I") (by decide +kernel)
  have L16 := hts (.fieldLink RX6 16 "AnvilHouseModel" "drop" "[I") (by decide +kernel)
  have hl9 : lv_has sl9 5 [(0, .ref o), (1, .int (t)), (2, .int (many)), (3, .int (how)), (4, .int (less))] := hl9
  refine lv_aload_n hx hb dX6_steel_0 rfl (lv_at hl9 0 rfl) ?_
  refine lv_iload_n hx hb dX6_steel_1 rfl (lv_at hl9 1 rfl) ?_
  refine lv_iconst (v := 0) hx hb dX6_steel_2 (by decide) ?_
  refine lv_iconst (v := 3) hx hb dX6_steel_3 (by decide) ?_
  refine z_callSi (As := [.int (t), .int 0, .int 3]) (rest := [.ref o]) Z.1 (cm_in l (t) (0) (3)) (va_cwS 3 hts gX6_steel_X6_in rfl rfl rfl (by decide +kernel) ⟨by decide, by decide⟩) rfl hl9.1 (Nat.le_of_ble_eq_true rfl) dX6_steel_4 ⟨by decide, by decide⟩ rfl ?_
  refine lv_iload_n hx hb dX6_steel_7 rfl (lv_at hl9 2 rfl) ?_
  refine lv_iconst (v := 1) hx hb dX6_steel_8 (by decide) ?_
  refine lv_bipush (v := 9) hx hb dX6_steel_9 (by decide) ?_
  refine z_callSi (As := [.int (many), .int 1, .int 9]) (rest := [.int (bin (t) (0) (3)), .ref o]) Z.1 (cm_in l (many) (1) (9)) (va_cwS 3 hts gX6_steel_X6_in rfl rfl rfl (by decide +kernel) ⟨by decide, by decide⟩) rfl hl9.1 (Nat.le_of_ble_eq_true rfl) dX6_steel_11 ⟨by decide, by decide⟩ rfl ?_
  refine lv_if_eq (tgt := 43) hx hb dX6_steel_14 (by decide) (fun c_1 => ?_) (fun c_1 => ?_)
  ·
    refine lv_iconst (v := 0) hx hb dX6_steel_43 (by decide) ?_
    refine lv_iconst (v := 1) hx hb dX6_steel_44 (by decide) ?_
    refine z_callAi (As := [.int (bin (t) (0) (3)), .int 0, .int 1]) (rest := []) (rv := if gth (bin (t) (0) (3)) (0) (1) = 0 then 1 else 0) (wc' := mW o ad T (upS σ 31 (fun _ => gth (bin (t) (0) (3)) (0) (1)))) Z Mz9 (cm_goes l D T o ad (σ) (bin (t) (0) (3)) (0) (1)) (cwV 3 hts gX6_steel_X6_goes rfl rfl rfl (by decide +kernel) ⟨by decide, by decide⟩) (va_recv Z.2.1 Mz9.1 (ci := 7) (q0 := 0) rfl rfl) rfl hl9.1 (Nat.le_of_ble_eq_true rfl) dX6_steel_45 ⟨by decide, by decide⟩ rfl (fun Hp9 lc9 Mz9 => ?_)
    refine zn_top (y := 0) (by have h := hg; simp only [if_pos c_1] at h; exact if_neg h) ?_
    refine lv_if_eq (tgt := 73) hx hb dX6_steel_48 (by decide) (fun _ => ?_) (fun h => absurd h (by decide))
    exact hret _ _ _ _ _ sl9 _ Mz9 (by simp only [if_pos c_1] <;> rfl) (Nat.le_refl _) (Nat.le_refl _) dX6_steel_73
  ·
    refine lv_iload_n hx hb dX6_steel_17 rfl (lv_at hl9 3 rfl) ?_
    refine lv_bipush (v := 20) hx hb dX6_steel_18 (by decide) ?_
    refine lv_bipush (v := 70) hx hb dX6_steel_20 (by decide) ?_
    refine z_callSi (As := [.int (how), .int 20, .int 70]) (rest := [.int (bin (t) (0) (3)), .ref o]) Z.1 (cm_in l (how) (20) (70)) (va_cwS 3 hts gX6_steel_X6_in rfl rfl rfl (by decide +kernel) ⟨by decide, by decide⟩) rfl hl9.1 (Nat.le_of_ble_eq_true rfl) dX6_steel_22 ⟨by decide, by decide⟩ rfl ?_
    refine lv_if_eq (tgt := 43) hx hb dX6_steel_25 (by decide) (fun c_2 => ?_) (fun c_2 => ?_)
    ·
      refine lv_iconst (v := 0) hx hb dX6_steel_43 (by decide) ?_
      refine lv_iconst (v := 1) hx hb dX6_steel_44 (by decide) ?_
      refine z_callAi (As := [.int (bin (t) (0) (3)), .int 0, .int 1]) (rest := []) (rv := if gth (bin (t) (0) (3)) (0) (1) = 0 then 1 else 0) (wc' := mW o ad T (upS σ 31 (fun _ => gth (bin (t) (0) (3)) (0) (1)))) Z Mz9 (cm_goes l D T o ad (σ) (bin (t) (0) (3)) (0) (1)) (cwV 3 hts gX6_steel_X6_goes rfl rfl rfl (by decide +kernel) ⟨by decide, by decide⟩) (va_recv Z.2.1 Mz9.1 (ci := 7) (q0 := 0) rfl rfl) rfl hl9.1 (Nat.le_of_ble_eq_true rfl) dX6_steel_45 ⟨by decide, by decide⟩ rfl (fun Hp9 lc9 Mz9 => ?_)
      refine zn_top (y := 0) (by have h := hg; simp only [if_neg c_1, if_pos c_2] at h; exact if_neg h) ?_
      refine lv_if_eq (tgt := 73) hx hb dX6_steel_48 (by decide) (fun _ => ?_) (fun h => absurd h (by decide))
      exact hret _ _ _ _ _ sl9 _ Mz9 (by simp only [if_neg c_1, if_pos c_2] <;> rfl) (Nat.le_refl _) (Nat.le_refl _) dX6_steel_73
    ·
      refine lv_iload hx hb dX6_steel_28 (lv_at hl9 4 rfl) ?_
      refine lv_iconst (v := 0) hx hb dX6_steel_30 (by decide) ?_
      refine lv_bipush (v := 9) hx hb dX6_steel_31 (by decide) ?_
      refine z_callSi (As := [.int (less), .int 0, .int 9]) (rest := [.int (bin (t) (0) (3)), .ref o]) Z.1 (cm_in l (less) (0) (9)) (va_cwS 3 hts gX6_steel_X6_in rfl rfl rfl (by decide +kernel) ⟨by decide, by decide⟩) rfl hl9.1 (Nat.le_of_ble_eq_true rfl) dX6_steel_33 ⟨by decide, by decide⟩ rfl ?_
      refine lv_if_eq (tgt := 43) hx hb dX6_steel_36 (by decide) (fun c_3 => ?_) (fun c_3 => ?_)
      ·
        refine lv_iconst (v := 0) hx hb dX6_steel_43 (by decide) ?_
        refine lv_iconst (v := 1) hx hb dX6_steel_44 (by decide) ?_
        refine z_callAi (As := [.int (bin (t) (0) (3)), .int 0, .int 1]) (rest := []) (rv := if gth (bin (t) (0) (3)) (0) (1) = 0 then 1 else 0) (wc' := mW o ad T (upS σ 31 (fun _ => gth (bin (t) (0) (3)) (0) (1)))) Z Mz9 (cm_goes l D T o ad (σ) (bin (t) (0) (3)) (0) (1)) (cwV 3 hts gX6_steel_X6_goes rfl rfl rfl (by decide +kernel) ⟨by decide, by decide⟩) (va_recv Z.2.1 Mz9.1 (ci := 7) (q0 := 0) rfl rfl) rfl hl9.1 (Nat.le_of_ble_eq_true rfl) dX6_steel_45 ⟨by decide, by decide⟩ rfl (fun Hp9 lc9 Mz9 => ?_)
        refine zn_top (y := 0) (by have h := hg; simp only [if_neg c_1, if_neg c_2, if_pos c_3] at h; exact if_neg h) ?_
        refine lv_if_eq (tgt := 73) hx hb dX6_steel_48 (by decide) (fun _ => ?_) (fun h => absurd h (by decide))
        exact hret _ _ _ _ _ sl9 _ Mz9 (by simp only [if_neg c_1, if_neg c_2, if_pos c_3] <;> rfl) (Nat.le_refl _) (Nat.le_refl _) dX6_steel_73
      ·
        refine lv_iconst (v := 1) hx hb dX6_steel_39 (by decide) ?_
        refine lv_goto (tgt := 44) hx hb dX6_steel_40 (by decide) ?_
        refine lv_iconst (v := 1) hx hb dX6_steel_44 (by decide) ?_
        refine z_callAi (As := [.int (bin (t) (0) (3)), .int 1, .int 1]) (rest := []) (rv := if gth (bin (t) (0) (3)) (1) (1) = 0 then 1 else 0) (wc' := mW o ad T (upS σ 31 (fun _ => gth (bin (t) (0) (3)) (1) (1)))) Z Mz9 (cm_goes l D T o ad (σ) (bin (t) (0) (3)) (1) (1)) (cwV 3 hts gX6_steel_X6_goes rfl rfl rfl (by decide +kernel) ⟨by decide, by decide⟩) (va_recv Z.2.1 Mz9.1 (ci := 7) (q0 := 0) rfl rfl) rfl hl9.1 (Nat.le_of_ble_eq_true rfl) dX6_steel_45 ⟨by decide, by decide⟩ rfl (fun Hp9 lc9 Mz9 => ?_)
        refine zn_top (y := 0) (by have h := hg; simp only [if_neg c_1, if_neg c_2, if_neg c_3] at h; exact if_neg h) ?_
        refine lv_if_eq (tgt := 73) hx hb dX6_steel_48 (by decide) (fun _ => ?_) (fun h => absurd h (by decide))
        exact hret _ _ _ _ _ sl9 _ Mz9 (by simp only [if_neg c_1, if_neg c_2, if_neg c_3] <;> rfl) (Nat.le_refl _) (Nat.le_refl _) dX6_steel_73
set_option maxHeartbeats 4000000 in
set_option maxRecDepth 100000 in
theorem cm_steel_ok (l : Launch) (D : va_G) (T : Nat → ClassId) (o : Nat) (ad : Nat → Nat) (σ : Nat → Nat → Int32) (j : Nat) (many how less : Int32) (hj : j < 4) (h1 : bin (nI j) 0 3 = 1) (h2 : bin many 1 9 = 1) (h3 : bin how 20 70 = 1) (h4 : bin less 0 9 = 1) : ZV l yX6_steel wsX6_steel (zrm 1 23) D T (mW o ad T σ) (mW o ad T (upS (upS (upS (upS σ 0 (upd (σ 0) j many)) 1 (upd (σ 1) j how)) 2 (upd (σ 2) j less)) 31 (fun _ => 0))) [.ref o, .int (nI (j)), .int (many), .int (how), .int (less)] 0 0 := by
  refine z_inV (cc := cX6_steel) (maxL := 5) (by decide +kernel) rfl (Nat.le_of_ble_eq_true rfl) ?_
  intro p e s m args below meth c sl9 A Q Z hnm Mz9 hl9 hret
  have Z : zC p s m args c cX6_steel 5 RX6 wsX6_steel D T A := Z
  have hx := Z.1.1
  have hb := Z.1.2.1
  have hts := Z.1.2.2.2.2
  have hin6 : ∀ w ∈ wsX60, w ∈ wsX6_steel := fun w h => List.mem_cons_of_mem _ (List.mem_append_right _ h)
  have hH0 : s.heap = s.heap := rfl
  have L7 := hts (.fieldLink RX6 7 "AnvilHouseModel" "mayHeat" "[I") (by decide +kernel)
  have L13 := hts (.fieldLink RX6 13 "AnvilHouseModel" "hard" "[I") (by decide +kernel)
  have L16 := hts (.fieldLink RX6 16 "AnvilHouseModel" "drop" "[I") (by decide +kernel)
  have hl9 : lv_has sl9 5 [(0, .ref o), (1, .int (nI (j))), (2, .int (many)), (3, .int (how)), (4, .int (less))] := hl9
  refine lv_aload_n hx hb dX6_steel_0 rfl (lv_at hl9 0 rfl) ?_
  refine lv_iload_n hx hb dX6_steel_1 rfl (lv_at hl9 1 rfl) ?_
  refine lv_iconst (v := 0) hx hb dX6_steel_2 (by decide) ?_
  refine lv_iconst (v := 3) hx hb dX6_steel_3 (by decide) ?_
  refine z_callSi (As := [.int (nI (j)), .int 0, .int 3]) (rest := [.ref o]) Z.1 (cm_in l (nI (j)) (0) (3)) (va_cwS 3 hts gX6_steel_X6_in rfl rfl rfl (by decide +kernel) ⟨by decide, by decide⟩) rfl hl9.1 (Nat.le_of_ble_eq_true rfl) dX6_steel_4 ⟨by decide, by decide⟩ rfl ?_
  refine zn_top (y := 1) (h1) ?_
  refine lv_iload_n hx hb dX6_steel_7 rfl (lv_at hl9 2 rfl) ?_
  refine lv_iconst (v := 1) hx hb dX6_steel_8 (by decide) ?_
  refine lv_bipush (v := 9) hx hb dX6_steel_9 (by decide) ?_
  refine z_callSi (As := [.int (many), .int 1, .int 9]) (rest := [.int 1, .ref o]) Z.1 (cm_in l (many) (1) (9)) (va_cwS 3 hts gX6_steel_X6_in rfl rfl rfl (by decide +kernel) ⟨by decide, by decide⟩) rfl hl9.1 (Nat.le_of_ble_eq_true rfl) dX6_steel_11 ⟨by decide, by decide⟩ rfl ?_
  refine zn_top (y := 1) (h2) ?_
  refine lv_if_eq (tgt := 43) hx hb dX6_steel_14 (by decide) (fun h => absurd h (by decide)) (fun _ => ?_)
  refine lv_iload_n hx hb dX6_steel_17 rfl (lv_at hl9 3 rfl) ?_
  refine lv_bipush (v := 20) hx hb dX6_steel_18 (by decide) ?_
  refine lv_bipush (v := 70) hx hb dX6_steel_20 (by decide) ?_
  refine z_callSi (As := [.int (how), .int 20, .int 70]) (rest := [.int 1, .ref o]) Z.1 (cm_in l (how) (20) (70)) (va_cwS 3 hts gX6_steel_X6_in rfl rfl rfl (by decide +kernel) ⟨by decide, by decide⟩) rfl hl9.1 (Nat.le_of_ble_eq_true rfl) dX6_steel_22 ⟨by decide, by decide⟩ rfl ?_
  refine zn_top (y := 1) (h3) ?_
  refine lv_if_eq (tgt := 43) hx hb dX6_steel_25 (by decide) (fun h => absurd h (by decide)) (fun _ => ?_)
  refine lv_iload hx hb dX6_steel_28 (lv_at hl9 4 rfl) ?_
  refine lv_iconst (v := 0) hx hb dX6_steel_30 (by decide) ?_
  refine lv_bipush (v := 9) hx hb dX6_steel_31 (by decide) ?_
  refine z_callSi (As := [.int (less), .int 0, .int 9]) (rest := [.int 1, .ref o]) Z.1 (cm_in l (less) (0) (9)) (va_cwS 3 hts gX6_steel_X6_in rfl rfl rfl (by decide +kernel) ⟨by decide, by decide⟩) rfl hl9.1 (Nat.le_of_ble_eq_true rfl) dX6_steel_33 ⟨by decide, by decide⟩ rfl ?_
  refine zn_top (y := 1) (h4) ?_
  refine lv_if_eq (tgt := 43) hx hb dX6_steel_36 (by decide) (fun h => absurd h (by decide)) (fun _ => ?_)
  refine lv_iconst (v := 1) hx hb dX6_steel_39 (by decide) ?_
  refine lv_goto (tgt := 44) hx hb dX6_steel_40 (by decide) ?_
  refine lv_iconst (v := 1) hx hb dX6_steel_44 (by decide) ?_
  refine z_callAi (As := [.int 1, .int 1, .int 1]) (rest := []) (rv := if gth (1) (1) (1) = 0 then 1 else 0) (wc' := mW o ad T (upS σ 31 (fun _ => 0))) Z Mz9 (cm_goes l D T o ad (σ) (1) (1) (1)) (cwV 3 hts gX6_steel_X6_goes rfl rfl rfl (by decide +kernel) ⟨by decide, by decide⟩) (va_recv Z.2.1 Mz9.1 (ci := 7) (q0 := 0) rfl rfl) rfl hl9.1 (Nat.le_of_ble_eq_true rfl) dX6_steel_45 ⟨by decide, by decide⟩ rfl (fun Hp9 lc9 Mz9 => ?_)
  refine zn_top (y := 1) (by decide) ?_
  refine lv_if_eq (tgt := 73) hx hb dX6_steel_48 (by decide) (fun h => absurd h (by decide)) (fun _ => ?_)
  refine lv_aload_n hx hb dX6_steel_51 rfl (lv_at hl9 0 rfl) ?_
  refine z_getf Z Mz9 hin6 0 rfl rfl 0 (by decide) L7 rfl (v := .ref (ad 0)) rfl dX6_steel_52 ?_
  refine lv_iload_n hx hb dX6_steel_55 rfl (lv_at hl9 1 rfl) ?_
  refine lv_iload_n hx hb dX6_steel_56 rfl (lv_at hl9 2 rfl) ?_
  refine z_iast Z Mz9 1 (h0 := ad 0) (n := 4) (f := σ 0) rfl (j := j) (x := many) (by omega) (by decide) (ws' := mW o ad T (upS (upS σ 0 (upd (σ 0) j many)) 31 (fun _ => 0))) rfl dX6_steel_57 (fun Hp9 lc9 Mz9 => ?_)
  refine lv_aload_n hx hb dX6_steel_58 rfl (lv_at hl9 0 rfl) ?_
  refine z_getf Z Mz9 hin6 0 rfl rfl 1 (by decide) L13 rfl (v := .ref (ad 1)) rfl dX6_steel_59 ?_
  refine lv_iload_n hx hb dX6_steel_62 rfl (lv_at hl9 1 rfl) ?_
  refine lv_iload_n hx hb dX6_steel_63 rfl (lv_at hl9 3 rfl) ?_
  refine z_iast Z Mz9 2 (h0 := ad 1) (n := 4) (f := σ 1) rfl (j := j) (x := how) (by omega) (by decide) (ws' := mW o ad T (upS (upS (upS σ 0 (upd (σ 0) j many)) 1 (upd (σ 1) j how)) 31 (fun _ => 0))) rfl dX6_steel_64 (fun Hp9 lc9 Mz9 => ?_)
  refine lv_aload_n hx hb dX6_steel_65 rfl (lv_at hl9 0 rfl) ?_
  refine z_getf Z Mz9 hin6 0 rfl rfl 2 (by decide) L16 rfl (v := .ref (ad 2)) rfl dX6_steel_66 ?_
  refine lv_iload_n hx hb dX6_steel_69 rfl (lv_at hl9 1 rfl) ?_
  refine lv_iload hx hb dX6_steel_70 (lv_at hl9 4 rfl) ?_
  refine z_iast Z Mz9 3 (h0 := ad 2) (n := 4) (f := σ 2) rfl (j := j) (x := less) (by omega) (by decide) (ws' := mW o ad T (upS (upS (upS (upS σ 0 (upd (σ 0) j many)) 1 (upd (σ 1) j how)) 2 (upd (σ 2) j less)) 31 (fun _ => 0))) rfl dX6_steel_72 (fun Hp9 lc9 Mz9 => ?_)
  exact hret _ _ _ _ _ sl9 _ Mz9 (rfl) (Nat.le_refl _) (Nat.le_refl _) dX6_steel_73
set_option maxHeartbeats 4000000 in
set_option maxRecDepth 100000 in
theorem cm_melt_bad (l : Launch) (D : va_G) (T : Nat → ClassId) (o : Nat) (ad : Nat → Nat) (σ : Nat → Nat → Int32) (t : Int32) (hg : ¬ gth (bin (t) (0) (3)) (if σ 3 0 < 20 then 1 else 0) (1) = 0) : ZI l yX6_melt wsX6_melt (zrm 1 23) D T (mW o ad T σ) (mW o ad T (upS σ 31 (fun _ => gth (bin (t) (0) (3)) (if σ 3 0 < 20 then 1 else 0) (1)))) [.ref o, .int (t)] (0) 0 0 := by
  refine z_inI (cc := cX6_melt) (maxL := 2) (rt := .int) (by decide +kernel) rfl (Nat.le_of_ble_eq_true rfl) ?_
  intro p e s m args below meth c sl9 A Q Z hnm Mz9 hl9 hret
  have Z : zC p s m args c cX6_melt 2 RX6 wsX6_melt D T A := Z
  have hx := Z.1.1
  have hb := Z.1.2.1
  have hts := Z.1.2.2.2.2
  have hin6 : ∀ w ∈ wsX60, w ∈ wsX6_melt := fun w h => List.mem_cons_of_mem _ (List.mem_append_right _ h)
  have hH0 : s.heap = s.heap := rfl
  have L107 := hts (.fieldLink RX6 107 "AnvilHouseModel" "melts" "I") (by decide +kernel)
  have L19 := hts (.fieldLink RX6 19 "AnvilHouseModel" "steelOf" "[I") (by decide +kernel)
  have hl9 : lv_has sl9 2 [(0, .ref o), (1, .int (t))] := hl9
  refine lv_aload_n hx hb dX6_melt_0 rfl (lv_at hl9 0 rfl) ?_
  refine lv_iload_n hx hb dX6_melt_1 rfl (lv_at hl9 1 rfl) ?_
  refine lv_iconst (v := 0) hx hb dX6_melt_2 (by decide) ?_
  refine lv_iconst (v := 3) hx hb dX6_melt_3 (by decide) ?_
  refine z_callSi (As := [.int (t), .int 0, .int 3]) (rest := [.ref o]) Z.1 (cm_in l (t) (0) (3)) (va_cwS 3 hts gX6_melt_X6_in rfl rfl rfl (by decide +kernel) ⟨by decide, by decide⟩) rfl hl9.1 (Nat.le_of_ble_eq_true rfl) dX6_melt_4 ⟨by decide, by decide⟩ rfl ?_
  refine lv_aload_n hx hb dX6_melt_7 rfl (lv_at hl9 0 rfl) ?_
  refine z_getf Z Mz9 hin6 0 rfl rfl 3 (by decide) L107 rfl (v := .int (σ 3 0)) rfl dX6_melt_8 ?_
  refine lv_bipush (v := 20) hx hb dX6_melt_11 (by decide) ?_
  refine lv_icmp_ge (tgt := 20) hx hb dX6_melt_13 (by decide) (fun c_1 => ?_) (fun c_1 => ?_)
  ·
    refine lv_iconst (v := 0) hx hb dX6_melt_20 (by decide) ?_
    refine lv_iconst (v := 1) hx hb dX6_melt_21 (by decide) ?_
    refine z_callAi (As := [.int (bin (t) (0) (3)), .int 0, .int 1]) (rest := []) (rv := if gth (bin (t) (0) (3)) (0) (1) = 0 then 1 else 0) (wc' := mW o ad T (upS σ 31 (fun _ => gth (bin (t) (0) (3)) (0) (1)))) Z Mz9 (cm_goes l D T o ad (σ) (bin (t) (0) (3)) (0) (1)) (cwV 3 hts gX6_melt_X6_goes rfl rfl rfl (by decide +kernel) ⟨by decide, by decide⟩) (va_recv Z.2.1 Mz9.1 (ci := 7) (q0 := 0) rfl rfl) rfl hl9.1 (Nat.le_of_ble_eq_true rfl) dX6_melt_22 ⟨by decide, by decide⟩ rfl (fun Hp9 lc9 Mz9 => ?_)
    refine zn_top (y := 0) (by have h := hg; simp only [if_neg (Int32.not_lt.mpr c_1)] at h; exact if_neg h) ?_
    refine lv_if_ne (tgt := 30) hx hb dX6_melt_25 (by decide) (fun h => absurd h (by decide)) (fun _ => ?_)
    refine lv_iconst (v := 0) hx hb dX6_melt_28 (by decide) ?_
    exact hret _ _ _ _ _ sl9 _ _ Mz9 (by simp only [if_neg (Int32.not_lt.mpr c_1)] <;> rfl) (rfl) (rfl) (Nat.le_refl _) (Nat.le_refl _) dX6_melt_29
  ·
    refine lv_iconst (v := 1) hx hb dX6_melt_16 (by decide) ?_
    refine lv_goto (tgt := 21) hx hb dX6_melt_17 (by decide) ?_
    refine lv_iconst (v := 1) hx hb dX6_melt_21 (by decide) ?_
    refine z_callAi (As := [.int (bin (t) (0) (3)), .int 1, .int 1]) (rest := []) (rv := if gth (bin (t) (0) (3)) (1) (1) = 0 then 1 else 0) (wc' := mW o ad T (upS σ 31 (fun _ => gth (bin (t) (0) (3)) (1) (1)))) Z Mz9 (cm_goes l D T o ad (σ) (bin (t) (0) (3)) (1) (1)) (cwV 3 hts gX6_melt_X6_goes rfl rfl rfl (by decide +kernel) ⟨by decide, by decide⟩) (va_recv Z.2.1 Mz9.1 (ci := 7) (q0 := 0) rfl rfl) rfl hl9.1 (Nat.le_of_ble_eq_true rfl) dX6_melt_22 ⟨by decide, by decide⟩ rfl (fun Hp9 lc9 Mz9 => ?_)
    refine zn_top (y := 0) (by have h := hg; simp only [if_pos (Int32.not_le.mp c_1)] at h; exact if_neg h) ?_
    refine lv_if_ne (tgt := 30) hx hb dX6_melt_25 (by decide) (fun h => absurd h (by decide)) (fun _ => ?_)
    refine lv_iconst (v := 0) hx hb dX6_melt_28 (by decide) ?_
    exact hret _ _ _ _ _ sl9 _ _ Mz9 (by simp only [if_pos (Int32.not_le.mp c_1)] <;> rfl) (rfl) (rfl) (Nat.le_refl _) (Nat.le_refl _) dX6_melt_29
set_option maxHeartbeats 4000000 in
set_option maxRecDepth 100000 in
theorem cm_melt_ok (l : Launch) (D : va_G) (T : Nat → ClassId) (o : Nat) (ad : Nat → Nat) (σ : Nat → Nat → Int32) (j nm : Nat) (hj : j < 4) (hnm : nm < 20) (h3 : σ 3 0 = nI nm) (h1 : bin (nI j) 0 3 = 1) : ZI l yX6_melt wsX6_melt (zrm 1 23) D T (mW o ad T σ) (mW o ad T (upS (upS (upS σ 3 (fun _ => nI (nm + 1))) 4 (upd (σ 4) nm (nI j))) 31 (fun _ => 0))) [.ref o, .int (nI (j))] (nI nm) 0 0 := by
  refine z_inI (cc := cX6_melt) (maxL := 2) (rt := .int) (by decide +kernel) rfl (Nat.le_of_ble_eq_true rfl) ?_
  intro p e s m args below meth c sl9 A Q Z hnm Mz9 hl9 hret
  have Z : zC p s m args c cX6_melt 2 RX6 wsX6_melt D T A := Z
  have hx := Z.1.1
  have hb := Z.1.2.1
  have hts := Z.1.2.2.2.2
  have hin6 : ∀ w ∈ wsX60, w ∈ wsX6_melt := fun w h => List.mem_cons_of_mem _ (List.mem_append_right _ h)
  have hH0 : s.heap = s.heap := rfl
  have L107 := hts (.fieldLink RX6 107 "AnvilHouseModel" "melts" "I") (by decide +kernel)
  have L19 := hts (.fieldLink RX6 19 "AnvilHouseModel" "steelOf" "[I") (by decide +kernel)
  have hl9 : lv_has sl9 2 [(0, .ref o), (1, .int (nI (j)))] := hl9
  refine lv_aload_n hx hb dX6_melt_0 rfl (lv_at hl9 0 rfl) ?_
  refine lv_iload_n hx hb dX6_melt_1 rfl (lv_at hl9 1 rfl) ?_
  refine lv_iconst (v := 0) hx hb dX6_melt_2 (by decide) ?_
  refine lv_iconst (v := 3) hx hb dX6_melt_3 (by decide) ?_
  refine z_callSi (As := [.int (nI (j)), .int 0, .int 3]) (rest := [.ref o]) Z.1 (cm_in l (nI (j)) (0) (3)) (va_cwS 3 hts gX6_melt_X6_in rfl rfl rfl (by decide +kernel) ⟨by decide, by decide⟩) rfl hl9.1 (Nat.le_of_ble_eq_true rfl) dX6_melt_4 ⟨by decide, by decide⟩ rfl ?_
  refine zn_top (y := 1) (h1) ?_
  refine lv_aload_n hx hb dX6_melt_7 rfl (lv_at hl9 0 rfl) ?_
  refine z_getf Z Mz9 hin6 0 rfl rfl 3 (by decide) L107 rfl (v := .int (σ 3 0)) rfl dX6_melt_8 ?_
  refine zn_top (y := nI (nm)) (h3) ?_
  refine lv_bipush (v := 20) hx hb dX6_melt_11 (by decide) ?_
  refine zn_icmp_ge (a := nm) (b := 20) (tgt := 20) (by omega) (by decide) hx hb dX6_melt_13 (by decide) (fun h => absurd h (by omega)) (fun _ => ?_)
  refine lv_iconst (v := 1) hx hb dX6_melt_16 (by decide) ?_
  refine lv_goto (tgt := 21) hx hb dX6_melt_17 (by decide) ?_
  refine lv_iconst (v := 1) hx hb dX6_melt_21 (by decide) ?_
  refine z_callAi (As := [.int 1, .int 1, .int 1]) (rest := []) (rv := if gth (1) (1) (1) = 0 then 1 else 0) (wc' := mW o ad T (upS σ 31 (fun _ => 0))) Z Mz9 (cm_goes l D T o ad (σ) (1) (1) (1)) (cwV 3 hts gX6_melt_X6_goes rfl rfl rfl (by decide +kernel) ⟨by decide, by decide⟩) (va_recv Z.2.1 Mz9.1 (ci := 7) (q0 := 0) rfl rfl) rfl hl9.1 (Nat.le_of_ble_eq_true rfl) dX6_melt_22 ⟨by decide, by decide⟩ rfl (fun Hp9 lc9 Mz9 => ?_)
  refine zn_top (y := 1) (by decide) ?_
  refine lv_if_ne (tgt := 30) hx hb dX6_melt_25 (by decide) (fun _ => ?_) (fun h => absurd h (by decide))
  refine lv_aload_n hx hb dX6_melt_30 rfl (lv_at hl9 0 rfl) ?_
  refine z_getf Z Mz9 hin6 0 rfl rfl 4 (by decide) L19 rfl (v := .ref (ad 4)) rfl dX6_melt_31 ?_
  refine lv_aload_n hx hb dX6_melt_34 rfl (lv_at hl9 0 rfl) ?_
  refine z_getf Z Mz9 hin6 0 rfl rfl 3 (by decide) L107 rfl (v := .int (σ 3 0)) rfl dX6_melt_35 ?_
  refine zn_top (y := nI (nm)) (h3) ?_
  refine lv_iload_n hx hb dX6_melt_38 rfl (lv_at hl9 1 rfl) ?_
  refine z_iast Z Mz9 4 (h0 := ad 4) (n := 20) (f := σ 4) rfl (j := nm) (x := nI (j)) (by omega) (by decide) (ws' := mW o ad T (upS (upS σ 4 (upd (σ 4) nm (nI (j)))) 31 (fun _ => 0))) rfl dX6_melt_39 (fun Hp9 lc9 Mz9 => ?_)
  refine lv_aload_n hx hb dX6_melt_40 rfl (lv_at hl9 0 rfl) ?_
  refine lv_dup hx hb dX6_melt_41 rfl ?_
  refine z_getf Z Mz9 hin6 0 rfl rfl 3 (by decide) L107 rfl (v := .int (σ 3 0)) rfl dX6_melt_42 ?_
  refine zn_top (y := nI (nm)) (h3) ?_
  refine lv_iconst (v := 1) hx hb dX6_melt_45 (by decide) ?_
  refine zn_iadd (a := nm) (b := 1) hx hb dX6_melt_46 ?_
  refine z_putf Z Mz9 hin6 tyX6 tyX6_ok nmX6 0 rfl rfl 3 (by decide) L107 rfl rfl (ty := .int) rfl rfl rfl (Nat.le_of_ble_eq_true rfl) (ws' := mW o ad T (upS (upS (upS σ 3 (fun _ => nI (nm + 1))) 4 (upd (σ 4) nm (nI (j)))) 31 (fun _ => 0))) rfl dX6_melt_47 (fun Hp9 lc9 Mz9 => ?_)
  refine lv_aload_n hx hb dX6_melt_50 rfl (lv_at hl9 0 rfl) ?_
  refine z_getf Z Mz9 hin6 0 rfl rfl 3 (by decide) L107 rfl (v := .int (nI (nm + 1))) rfl dX6_melt_51 ?_
  refine lv_iconst (v := 1) hx hb dX6_melt_54 (by decide) ?_
  refine zn_isub (a := nm + 1) (b := 1) (by omega) hx hb dX6_melt_55 ?_
  exact hret _ _ _ _ _ sl9 _ _ Mz9 (rfl) (by rw [Nat.add_sub_cancel]) (rfl) (Nat.le_refl _) (Nat.le_refl _) dX6_melt_56
set_option maxHeartbeats 4000000 in
set_option maxRecDepth 100000 in
theorem cm_billet_bad (l : Launch) (D : va_G) (T : Nat → ClassId) (o : Nat) (ad : Nat → Nat) (σ : Nat → Nat → Int32) (m9 w : Int32) (hg : ¬ gth (bin m9 0 (σ 3 0 - 1)) (bin (w) (2) (200)) (if σ 5 0 < 12 then 1 else 0) = 0) : ZI l yX6_billet wsX6_billet (zrm 1 23) D T (mW o ad T σ) (mW o ad T (upS σ 31 (fun _ => gth (bin m9 0 (σ 3 0 - 1)) (bin (w) (2) (200)) (if σ 5 0 < 12 then 1 else 0)))) [.ref o, .int (m9), .int (w)] (0) 0 0 := by
  refine z_inI (cc := cX6_billet) (maxL := 4) (rt := .int) (by decide +kernel) rfl (Nat.le_of_ble_eq_true rfl) ?_
  intro p e s m args below meth c sl9 A Q Z hnm Mz9 hl9 hret
  have Z : zC p s m args c cX6_billet 4 RX6 wsX6_billet D T A := Z
  have hx := Z.1.1
  have hb := Z.1.2.1
  have hts := Z.1.2.2.2.2
  have hin6 : ∀ w ∈ wsX60, w ∈ wsX6_billet := fun w h => List.mem_cons_of_mem _ (List.mem_append_right _ h)
  have hH0 : s.heap = s.heap := rfl
  have L107 := hts (.fieldLink RX6 107 "AnvilHouseModel" "melts" "I") (by decide +kernel)
  have L93 := hts (.fieldLink RX6 93 "AnvilHouseModel" "billets" "I") (by decide +kernel)
  have L22 := hts (.fieldLink RX6 22 "AnvilHouseModel" "meltOf" "[I") (by decide +kernel)
  have L25 := hts (.fieldLink RX6 25 "AnvilHouseModel" "areas" "[I") (by decide +kernel)
  have L62 := hts (.fieldLink RX6 62 "AnvilHouseModel" "made" "[I") (by decide +kernel)
  have L31 := hts (.fieldLink RX6 31 "AnvilHouseModel" "skin" "[I") (by decide +kernel)
  have L34 := hts (.fieldLink RX6 34 "AnvilHouseModel" "core" "[I") (by decide +kernel)
  have L37 := hts (.fieldLink RX6 37 "AnvilHouseModel" "grain" "[I") (by decide +kernel)
  have L50 := hts (.fieldLink RX6 50 "AnvilHouseModel" "layers" "[I") (by decide +kernel)
  have L53 := hts (.fieldLink RX6 53 "AnvilHouseModel" "load" "[I") (by decide +kernel)
  have hl9 : lv_has sl9 4 [(0, .ref o), (1, .int (m9)), (2, .int (w))] := hl9
  refine lv_aload_n hx hb dX6_billet_0 rfl (lv_at hl9 0 rfl) ?_
  refine lv_iload_n hx hb dX6_billet_1 rfl (lv_at hl9 1 rfl) ?_
  refine lv_iconst (v := 0) hx hb dX6_billet_2 (by decide) ?_
  refine lv_aload_n hx hb dX6_billet_3 rfl (lv_at hl9 0 rfl) ?_
  refine z_getf Z Mz9 hin6 0 rfl rfl 3 (by decide) L107 rfl (v := .int (σ 3 0)) rfl dX6_billet_4 ?_
  refine lv_iconst (v := 1) hx hb dX6_billet_7 (by decide) ?_
  refine lv_isub hx hb dX6_billet_8 ?_
  refine z_callSi (As := [.int (m9), .int 0, .int ((σ 3 0) - 1)]) (rest := [.ref o]) Z.1 (cm_in l (m9) (0) ((σ 3 0) - 1)) (va_cwS 3 hts gX6_billet_X6_in rfl rfl rfl (by decide +kernel) ⟨by decide, by decide⟩) rfl hl9.1 (Nat.le_of_ble_eq_true rfl) dX6_billet_9 ⟨by decide, by decide⟩ rfl ?_
  refine lv_iload_n hx hb dX6_billet_12 rfl (lv_at hl9 2 rfl) ?_
  refine lv_iconst (v := 2) hx hb dX6_billet_13 (by decide) ?_
  refine lv_sipush (v := 200) hx hb dX6_billet_14 (by decide) ?_
  refine z_callSi (As := [.int (w), .int 2, .int 200]) (rest := [.int (bin (m9) (0) ((σ 3 0) - 1)), .ref o]) Z.1 (cm_in l (w) (2) (200)) (va_cwS 3 hts gX6_billet_X6_in rfl rfl rfl (by decide +kernel) ⟨by decide, by decide⟩) rfl hl9.1 (Nat.le_of_ble_eq_true rfl) dX6_billet_17 ⟨by decide, by decide⟩ rfl ?_
  refine lv_aload_n hx hb dX6_billet_20 rfl (lv_at hl9 0 rfl) ?_
  refine z_getf Z Mz9 hin6 0 rfl rfl 5 (by decide) L93 rfl (v := .int (σ 5 0)) rfl dX6_billet_21 ?_
  refine lv_bipush (v := 12) hx hb dX6_billet_24 (by decide) ?_
  refine lv_icmp_ge (tgt := 33) hx hb dX6_billet_26 (by decide) (fun c_1 => ?_) (fun c_1 => ?_)
  ·
    refine lv_iconst (v := 0) hx hb dX6_billet_33 (by decide) ?_
    refine z_callAi (As := [.int (bin (m9) (0) ((σ 3 0) - 1)), .int (bin (w) (2) (200)), .int 0]) (rest := []) (rv := if gth (bin (m9) (0) ((σ 3 0) - 1)) (bin (w) (2) (200)) (0) = 0 then 1 else 0) (wc' := mW o ad T (upS σ 31 (fun _ => gth (bin (m9) (0) ((σ 3 0) - 1)) (bin (w) (2) (200)) (0)))) Z Mz9 (cm_goes l D T o ad (σ) (bin (m9) (0) ((σ 3 0) - 1)) (bin (w) (2) (200)) (0)) (cwV 3 hts gX6_billet_X6_goes rfl rfl rfl (by decide +kernel) ⟨by decide, by decide⟩) (va_recv Z.2.1 Mz9.1 (ci := 7) (q0 := 0) rfl rfl) rfl hl9.1 (Nat.le_of_ble_eq_true rfl) dX6_billet_34 ⟨by decide, by decide⟩ rfl (fun Hp9 lc9 Mz9 => ?_)
    refine zn_top (y := 0) (by have h := hg; simp only [if_neg (Int32.not_lt.mpr c_1)] at h; exact if_neg h) ?_
    refine lv_if_ne (tgt := 42) hx hb dX6_billet_37 (by decide) (fun h => absurd h (by decide)) (fun _ => ?_)
    refine lv_iconst (v := 0) hx hb dX6_billet_40 (by decide) ?_
    exact hret _ _ _ _ _ sl9 _ _ Mz9 (by simp only [if_neg (Int32.not_lt.mpr c_1)] <;> rfl) (rfl) (rfl) (Nat.le_refl _) (Nat.le_refl _) dX6_billet_41
  ·
    refine lv_iconst (v := 1) hx hb dX6_billet_29 (by decide) ?_
    refine lv_goto (tgt := 34) hx hb dX6_billet_30 (by decide) ?_
    refine z_callAi (As := [.int (bin (m9) (0) ((σ 3 0) - 1)), .int (bin (w) (2) (200)), .int 1]) (rest := []) (rv := if gth (bin (m9) (0) ((σ 3 0) - 1)) (bin (w) (2) (200)) (1) = 0 then 1 else 0) (wc' := mW o ad T (upS σ 31 (fun _ => gth (bin (m9) (0) ((σ 3 0) - 1)) (bin (w) (2) (200)) (1)))) Z Mz9 (cm_goes l D T o ad (σ) (bin (m9) (0) ((σ 3 0) - 1)) (bin (w) (2) (200)) (1)) (cwV 3 hts gX6_billet_X6_goes rfl rfl rfl (by decide +kernel) ⟨by decide, by decide⟩) (va_recv Z.2.1 Mz9.1 (ci := 7) (q0 := 0) rfl rfl) rfl hl9.1 (Nat.le_of_ble_eq_true rfl) dX6_billet_34 ⟨by decide, by decide⟩ rfl (fun Hp9 lc9 Mz9 => ?_)
    refine zn_top (y := 0) (by have h := hg; simp only [if_pos (Int32.not_le.mp c_1)] at h; exact if_neg h) ?_
    refine lv_if_ne (tgt := 42) hx hb dX6_billet_37 (by decide) (fun h => absurd h (by decide)) (fun _ => ?_)
    refine lv_iconst (v := 0) hx hb dX6_billet_40 (by decide) ?_
    exact hret _ _ _ _ _ sl9 _ _ Mz9 (by simp only [if_pos (Int32.not_le.mp c_1)] <;> rfl) (rfl) (rfl) (Nat.le_refl _) (Nat.le_refl _) dX6_billet_41
set_option maxHeartbeats 4000000 in
set_option maxRecDepth 100000 in
theorem cm_billet_ok (l : Launch) (D : va_G) (T : Nat → ClassId) (o : Nat) (ad : Nat → Nat) (σ : Nat → Nat → Int32) (mo nb : Nat) (w : Int32) (hmo : mo < 20) (hnb : nb < 12) (h5 : σ 5 0 = nI nb) (h1 : bin (nI mo) 0 (σ 3 0 - 1) = 1) (h2 : bin w 2 200 = 1) : ZI l yX6_billet wsX6_billet (zrm 1 23) D T (mW o ad T σ) (mW o ad T (upS (upS (upS (upS (upS (upS (upS (upS (upS (upS σ 5 (fun _ => nI (nb + 1))) 6 (upd (σ 6) nb (nI mo))) 7 (FI (σ 7) (8 * nb) w)) 9 (upd (σ 9) nb 20)) 10 (upd (σ 10) nb 20)) 11 (upd (σ 11) nb 50)) 15 (upd (σ 15) nb 240)) 16 (upd (σ 16) nb (-1))) 19 (upd (σ 19) nb (8 * w))) 31 (fun _ => 0))) [.ref o, .int (nI (mo)), .int (w)] (nI nb) 0 0 := by
  simp only [FI_eq]
  refine z_inI (cc := cX6_billet) (maxL := 4) (rt := .int) (by decide +kernel) rfl (Nat.le_of_ble_eq_true rfl) ?_
  intro p e s m args below meth c sl9 A Q Z hnm Mz9 hl9 hret
  have Z : zC p s m args c cX6_billet 4 RX6 wsX6_billet D T A := Z
  have hx := Z.1.1
  have hb := Z.1.2.1
  have hts := Z.1.2.2.2.2
  have hin6 : ∀ w ∈ wsX60, w ∈ wsX6_billet := fun w h => List.mem_cons_of_mem _ (List.mem_append_right _ h)
  have hH0 : s.heap = s.heap := rfl
  have L107 := hts (.fieldLink RX6 107 "AnvilHouseModel" "melts" "I") (by decide +kernel)
  have L93 := hts (.fieldLink RX6 93 "AnvilHouseModel" "billets" "I") (by decide +kernel)
  have L22 := hts (.fieldLink RX6 22 "AnvilHouseModel" "meltOf" "[I") (by decide +kernel)
  have L25 := hts (.fieldLink RX6 25 "AnvilHouseModel" "areas" "[I") (by decide +kernel)
  have L62 := hts (.fieldLink RX6 62 "AnvilHouseModel" "made" "[I") (by decide +kernel)
  have L31 := hts (.fieldLink RX6 31 "AnvilHouseModel" "skin" "[I") (by decide +kernel)
  have L34 := hts (.fieldLink RX6 34 "AnvilHouseModel" "core" "[I") (by decide +kernel)
  have L37 := hts (.fieldLink RX6 37 "AnvilHouseModel" "grain" "[I") (by decide +kernel)
  have L50 := hts (.fieldLink RX6 50 "AnvilHouseModel" "layers" "[I") (by decide +kernel)
  have L53 := hts (.fieldLink RX6 53 "AnvilHouseModel" "load" "[I") (by decide +kernel)
  have hl9 : lv_has sl9 4 [(0, .ref o), (1, .int (nI (mo))), (2, .int (w))] := hl9
  refine lv_aload_n hx hb dX6_billet_0 rfl (lv_at hl9 0 rfl) ?_
  refine lv_iload_n hx hb dX6_billet_1 rfl (lv_at hl9 1 rfl) ?_
  refine lv_iconst (v := 0) hx hb dX6_billet_2 (by decide) ?_
  refine lv_aload_n hx hb dX6_billet_3 rfl (lv_at hl9 0 rfl) ?_
  refine z_getf Z Mz9 hin6 0 rfl rfl 3 (by decide) L107 rfl (v := .int (σ 3 0)) rfl dX6_billet_4 ?_
  refine lv_iconst (v := 1) hx hb dX6_billet_7 (by decide) ?_
  refine lv_isub hx hb dX6_billet_8 ?_
  refine z_callSi (As := [.int (nI (mo)), .int 0, .int ((σ 3 0) - 1)]) (rest := [.ref o]) Z.1 (cm_in l (nI (mo)) (0) ((σ 3 0) - 1)) (va_cwS 3 hts gX6_billet_X6_in rfl rfl rfl (by decide +kernel) ⟨by decide, by decide⟩) rfl hl9.1 (Nat.le_of_ble_eq_true rfl) dX6_billet_9 ⟨by decide, by decide⟩ rfl ?_
  refine zn_top (y := 1) (h1) ?_
  refine lv_iload_n hx hb dX6_billet_12 rfl (lv_at hl9 2 rfl) ?_
  refine lv_iconst (v := 2) hx hb dX6_billet_13 (by decide) ?_
  refine lv_sipush (v := 200) hx hb dX6_billet_14 (by decide) ?_
  refine z_callSi (As := [.int (w), .int 2, .int 200]) (rest := [.int 1, .ref o]) Z.1 (cm_in l (w) (2) (200)) (va_cwS 3 hts gX6_billet_X6_in rfl rfl rfl (by decide +kernel) ⟨by decide, by decide⟩) rfl hl9.1 (Nat.le_of_ble_eq_true rfl) dX6_billet_17 ⟨by decide, by decide⟩ rfl ?_
  refine zn_top (y := 1) (h2) ?_
  refine lv_aload_n hx hb dX6_billet_20 rfl (lv_at hl9 0 rfl) ?_
  refine z_getf Z Mz9 hin6 0 rfl rfl 5 (by decide) L93 rfl (v := .int (σ 5 0)) rfl dX6_billet_21 ?_
  refine zn_top (y := nI (nb)) (h5) ?_
  refine lv_bipush (v := 12) hx hb dX6_billet_24 (by decide) ?_
  refine zn_icmp_ge (a := nb) (b := 12) (tgt := 33) (by omega) (by decide) hx hb dX6_billet_26 (by decide) (fun h => absurd h (by omega)) (fun _ => ?_)
  refine lv_iconst (v := 1) hx hb dX6_billet_29 (by decide) ?_
  refine lv_goto (tgt := 34) hx hb dX6_billet_30 (by decide) ?_
  refine z_callAi (As := [.int 1, .int 1, .int 1]) (rest := []) (rv := if gth (1) (1) (1) = 0 then 1 else 0) (wc' := mW o ad T (upS σ 31 (fun _ => 0))) Z Mz9 (cm_goes l D T o ad (σ) (1) (1) (1)) (cwV 3 hts gX6_billet_X6_goes rfl rfl rfl (by decide +kernel) ⟨by decide, by decide⟩) (va_recv Z.2.1 Mz9.1 (ci := 7) (q0 := 0) rfl rfl) rfl hl9.1 (Nat.le_of_ble_eq_true rfl) dX6_billet_34 ⟨by decide, by decide⟩ rfl (fun Hp9 lc9 Mz9 => ?_)
  refine zn_top (y := 1) (by decide) ?_
  refine lv_if_ne (tgt := 42) hx hb dX6_billet_37 (by decide) (fun _ => ?_) (fun h => absurd h (by decide))
  refine lv_aload_n hx hb dX6_billet_42 rfl (lv_at hl9 0 rfl) ?_
  refine z_getf Z Mz9 hin6 0 rfl rfl 6 (by decide) L22 rfl (v := .ref (ad 6)) rfl dX6_billet_43 ?_
  refine lv_aload_n hx hb dX6_billet_46 rfl (lv_at hl9 0 rfl) ?_
  refine z_getf Z Mz9 hin6 0 rfl rfl 5 (by decide) L93 rfl (v := .int (σ 5 0)) rfl dX6_billet_47 ?_
  refine zn_top (y := nI (nb)) (h5) ?_
  refine lv_iload_n hx hb dX6_billet_50 rfl (lv_at hl9 1 rfl) ?_
  refine z_iast Z Mz9 5 (h0 := ad 6) (n := 12) (f := σ 6) rfl (j := nb) (x := nI (mo)) (by omega) (by decide) (ws' := mW o ad T (upS (upS σ 6 (upd (σ 6) nb (nI (mo)))) 31 (fun _ => 0))) rfl dX6_billet_51 (fun Hp9 lc9 Mz9 => ?_)
  refine lv_iconst (v := 0) hx hb dX6_billet_52 (by decide) ?_
  refine lv_istore_n (lv' := [(3, .int 0), (0, .ref o), (1, .int (nI (mo))), (2, .int (w))]) hx hb dX6_billet_53 rfl hl9 (by decide) rfl (fun sl9 hl9 => ?_)
  have LP54_1 : ∀ (n54 k : Nat), k + n54 = 8 → ∀ (Hp9 : Heap) (lc9 : List Loc) (sl9 : Array Slot), zM D A s.heap (mW o ad T (upS (upS (upS σ 6 (upd (σ 6) nb (nI mo))) 7 (fil (σ 7) (8 * nb) w (k))) 31 (fun _ => 0))) Hp9 lc9 → lv_has sl9 4 [(0, .ref o), (1, .int (nI (mo))), (2, .int (w)), (3, .int (nI (k)))] → W p l e (zrm 1 23) s m args below meth c Hp9 lc9 0 0 Q (F0 m 54 sl9 []) := by
    intro n54
    induction n54 with
    | zero =>
      intro k hk9 Hp9 lc9 sl9 Mz9 hl9
      obtain rfl : 8 = k := by omega
      refine lv_iload_n hx hb dX6_billet_54 rfl (lv_at hl9 3 rfl) ?_
      refine lv_bipush (v := 8) hx hb dX6_billet_55 (by decide) ?_
      refine zn_icmp_ge (a := 8) (b := 8) (tgt := 81) (by omega) (by decide) hx hb dX6_billet_57 (by decide) (fun _ => ?_) (fun h => absurd h (by omega))
      refine lv_aload_n hx hb dX6_billet_81 rfl (lv_at hl9 0 rfl) ?_
      refine z_getf Z Mz9 hin6 0 rfl rfl 19 (by decide) L62 rfl (v := .ref (ad 19)) rfl dX6_billet_82 ?_
      refine lv_aload_n hx hb dX6_billet_85 rfl (lv_at hl9 0 rfl) ?_
      refine z_getf Z Mz9 hin6 0 rfl rfl 5 (by decide) L93 rfl (v := .int (σ 5 0)) rfl dX6_billet_86 ?_
      refine zn_top (y := nI (nb)) (h5) ?_
      refine lv_bipush (v := 8) hx hb dX6_billet_89 (by decide) ?_
      refine lv_iload_n hx hb dX6_billet_91 rfl (lv_at hl9 2 rfl) ?_
      refine lv_imul hx hb dX6_billet_92 ?_
      refine z_iast Z Mz9 18 (h0 := ad 19) (n := 12) (f := σ 19) rfl (j := nb) (x := 8 * w) (by omega) (by decide) (ws' := mW o ad T (upS (upS (upS (upS σ 6 (upd (σ 6) nb (nI mo))) 7 (fil (σ 7) (8 * nb) w (8))) 19 (upd (σ 19) nb (8 * w))) 31 (fun _ => 0))) rfl dX6_billet_93 (fun Hp9 lc9 Mz9 => ?_)
      refine lv_aload_n hx hb dX6_billet_94 rfl (lv_at hl9 0 rfl) ?_
      refine z_getf Z Mz9 hin6 0 rfl rfl 9 (by decide) L31 rfl (v := .ref (ad 9)) rfl dX6_billet_95 ?_
      refine lv_aload_n hx hb dX6_billet_98 rfl (lv_at hl9 0 rfl) ?_
      refine z_getf Z Mz9 hin6 0 rfl rfl 5 (by decide) L93 rfl (v := .int (σ 5 0)) rfl dX6_billet_99 ?_
      refine zn_top (y := nI (nb)) (h5) ?_
      refine lv_bipush (v := 20) hx hb dX6_billet_102 (by decide) ?_
      refine z_iast Z Mz9 8 (h0 := ad 9) (n := 12) (f := σ 9) rfl (j := nb) (x := 20) (by omega) (by decide) (ws' := mW o ad T (upS (upS (upS (upS (upS σ 6 (upd (σ 6) nb (nI mo))) 7 (fil (σ 7) (8 * nb) w (8))) 9 (upd (σ 9) nb 20)) 19 (upd (σ 19) nb (8 * w))) 31 (fun _ => 0))) rfl dX6_billet_104 (fun Hp9 lc9 Mz9 => ?_)
      refine lv_aload_n hx hb dX6_billet_105 rfl (lv_at hl9 0 rfl) ?_
      refine z_getf Z Mz9 hin6 0 rfl rfl 10 (by decide) L34 rfl (v := .ref (ad 10)) rfl dX6_billet_106 ?_
      refine lv_aload_n hx hb dX6_billet_109 rfl (lv_at hl9 0 rfl) ?_
      refine z_getf Z Mz9 hin6 0 rfl rfl 5 (by decide) L93 rfl (v := .int (σ 5 0)) rfl dX6_billet_110 ?_
      refine zn_top (y := nI (nb)) (h5) ?_
      refine lv_bipush (v := 20) hx hb dX6_billet_113 (by decide) ?_
      refine z_iast Z Mz9 9 (h0 := ad 10) (n := 12) (f := σ 10) rfl (j := nb) (x := 20) (by omega) (by decide) (ws' := mW o ad T (upS (upS (upS (upS (upS (upS σ 6 (upd (σ 6) nb (nI mo))) 7 (fil (σ 7) (8 * nb) w (8))) 9 (upd (σ 9) nb 20)) 10 (upd (σ 10) nb 20)) 19 (upd (σ 19) nb (8 * w))) 31 (fun _ => 0))) rfl dX6_billet_115 (fun Hp9 lc9 Mz9 => ?_)
      refine lv_aload_n hx hb dX6_billet_116 rfl (lv_at hl9 0 rfl) ?_
      refine z_getf Z Mz9 hin6 0 rfl rfl 11 (by decide) L37 rfl (v := .ref (ad 11)) rfl dX6_billet_117 ?_
      refine lv_aload_n hx hb dX6_billet_120 rfl (lv_at hl9 0 rfl) ?_
      refine z_getf Z Mz9 hin6 0 rfl rfl 5 (by decide) L93 rfl (v := .int (σ 5 0)) rfl dX6_billet_121 ?_
      refine zn_top (y := nI (nb)) (h5) ?_
      refine lv_bipush (v := 50) hx hb dX6_billet_124 (by decide) ?_
      refine z_iast Z Mz9 10 (h0 := ad 11) (n := 12) (f := σ 11) rfl (j := nb) (x := 50) (by omega) (by decide) (ws' := mW o ad T (upS (upS (upS (upS (upS (upS (upS σ 6 (upd (σ 6) nb (nI mo))) 7 (fil (σ 7) (8 * nb) w (8))) 9 (upd (σ 9) nb 20)) 10 (upd (σ 10) nb 20)) 11 (upd (σ 11) nb 50)) 19 (upd (σ 19) nb (8 * w))) 31 (fun _ => 0))) rfl dX6_billet_126 (fun Hp9 lc9 Mz9 => ?_)
      refine lv_aload_n hx hb dX6_billet_127 rfl (lv_at hl9 0 rfl) ?_
      refine z_getf Z Mz9 hin6 0 rfl rfl 15 (by decide) L50 rfl (v := .ref (ad 15)) rfl dX6_billet_128 ?_
      refine lv_aload_n hx hb dX6_billet_131 rfl (lv_at hl9 0 rfl) ?_
      refine z_getf Z Mz9 hin6 0 rfl rfl 5 (by decide) L93 rfl (v := .int (σ 5 0)) rfl dX6_billet_132 ?_
      refine zn_top (y := nI (nb)) (h5) ?_
      refine lv_sipush (v := 240) hx hb dX6_billet_135 (by decide) ?_
      refine z_iast Z Mz9 14 (h0 := ad 15) (n := 12) (f := σ 15) rfl (j := nb) (x := 240) (by omega) (by decide) (ws' := mW o ad T (upS (upS (upS (upS (upS (upS (upS (upS σ 6 (upd (σ 6) nb (nI mo))) 7 (fil (σ 7) (8 * nb) w (8))) 9 (upd (σ 9) nb 20)) 10 (upd (σ 10) nb 20)) 11 (upd (σ 11) nb 50)) 15 (upd (σ 15) nb 240)) 19 (upd (σ 19) nb (8 * w))) 31 (fun _ => 0))) rfl dX6_billet_138 (fun Hp9 lc9 Mz9 => ?_)
      refine lv_aload_n hx hb dX6_billet_139 rfl (lv_at hl9 0 rfl) ?_
      refine z_getf Z Mz9 hin6 0 rfl rfl 16 (by decide) L53 rfl (v := .ref (ad 16)) rfl dX6_billet_140 ?_
      refine lv_aload_n hx hb dX6_billet_143 rfl (lv_at hl9 0 rfl) ?_
      refine z_getf Z Mz9 hin6 0 rfl rfl 5 (by decide) L93 rfl (v := .int (σ 5 0)) rfl dX6_billet_144 ?_
      refine zn_top (y := nI (nb)) (h5) ?_
      refine lv_iconst (v := (-1)) hx hb dX6_billet_147 (by decide) ?_
      refine z_iast Z Mz9 15 (h0 := ad 16) (n := 12) (f := σ 16) rfl (j := nb) (x := (-1)) (by omega) (by decide) (ws' := mW o ad T (upS (upS (upS (upS (upS (upS (upS (upS (upS σ 6 (upd (σ 6) nb (nI mo))) 7 (fil (σ 7) (8 * nb) w (8))) 9 (upd (σ 9) nb 20)) 10 (upd (σ 10) nb 20)) 11 (upd (σ 11) nb 50)) 15 (upd (σ 15) nb 240)) 16 (upd (σ 16) nb (-1))) 19 (upd (σ 19) nb (8 * w))) 31 (fun _ => 0))) rfl dX6_billet_148 (fun Hp9 lc9 Mz9 => ?_)
      refine lv_aload_n hx hb dX6_billet_149 rfl (lv_at hl9 0 rfl) ?_
      refine lv_dup hx hb dX6_billet_150 rfl ?_
      refine z_getf Z Mz9 hin6 0 rfl rfl 5 (by decide) L93 rfl (v := .int (σ 5 0)) rfl dX6_billet_151 ?_
      refine zn_top (y := nI (nb)) (h5) ?_
      refine lv_iconst (v := 1) hx hb dX6_billet_154 (by decide) ?_
      refine zn_iadd (a := nb) (b := 1) hx hb dX6_billet_155 ?_
      refine z_putf Z Mz9 hin6 tyX6 tyX6_ok nmX6 0 rfl rfl 5 (by decide) L93 rfl rfl (ty := .int) rfl rfl rfl (Nat.le_of_ble_eq_true rfl) (ws' := mW o ad T (upS (upS (upS (upS (upS (upS (upS (upS (upS (upS σ 5 (fun _ => nI (nb + 1))) 6 (upd (σ 6) nb (nI mo))) 7 (fil (σ 7) (8 * nb) w (8))) 9 (upd (σ 9) nb 20)) 10 (upd (σ 10) nb 20)) 11 (upd (σ 11) nb 50)) 15 (upd (σ 15) nb 240)) 16 (upd (σ 16) nb (-1))) 19 (upd (σ 19) nb (8 * w))) 31 (fun _ => 0))) rfl dX6_billet_156 (fun Hp9 lc9 Mz9 => ?_)
      refine lv_aload_n hx hb dX6_billet_159 rfl (lv_at hl9 0 rfl) ?_
      refine z_getf Z Mz9 hin6 0 rfl rfl 5 (by decide) L93 rfl (v := .int (nI (nb + 1))) rfl dX6_billet_160 ?_
      refine lv_iconst (v := 1) hx hb dX6_billet_163 (by decide) ?_
      refine zn_isub (a := nb + 1) (b := 1) (by omega) hx hb dX6_billet_164 ?_
      exact hret _ _ _ _ _ sl9 _ _ Mz9 (rfl) (by rw [Nat.add_sub_cancel]) (rfl) (Nat.le_refl _) (Nat.le_refl _) dX6_billet_165
    | succ n54 ih54 =>
      intro k hk9 Hp9 lc9 sl9 Mz9 hl9
      refine lv_iload_n hx hb dX6_billet_54 rfl (lv_at hl9 3 rfl) ?_
      refine lv_bipush (v := 8) hx hb dX6_billet_55 (by decide) ?_
      refine zn_icmp_ge (a := k) (b := 8) (tgt := 81) (by omega) (by decide) hx hb dX6_billet_57 (by decide) (fun h => absurd h (by omega)) (fun _ => ?_)
      refine lv_aload_n hx hb dX6_billet_60 rfl (lv_at hl9 0 rfl) ?_
      refine z_getf Z Mz9 hin6 0 rfl rfl 7 (by decide) L25 rfl (v := .ref (ad 7)) rfl dX6_billet_61 ?_
      refine lv_bipush (v := 8) hx hb dX6_billet_64 (by decide) ?_
      refine lv_aload_n hx hb dX6_billet_66 rfl (lv_at hl9 0 rfl) ?_
      refine z_getf Z Mz9 hin6 0 rfl rfl 5 (by decide) L93 rfl (v := .int (σ 5 0)) rfl dX6_billet_67 ?_
      refine zn_top (y := nI (nb)) (h5) ?_
      refine zn_imul (a := 8) (b := nb) hx hb dX6_billet_70 ?_
      refine lv_iload_n hx hb dX6_billet_71 rfl (lv_at hl9 3 rfl) ?_
      refine zn_iadd (a := 8 * nb) (b := k) hx hb dX6_billet_72 ?_
      refine lv_iload_n hx hb dX6_billet_73 rfl (lv_at hl9 2 rfl) ?_
      refine z_iast Z Mz9 6 (h0 := ad 7) (n := 96) (f := fil (σ 7) (8 * nb) w (k)) rfl (j := (8 * nb) + k) (x := w) (by omega) (by decide) (ws' := mW o ad T (upS (upS (upS σ 6 (upd (σ 6) nb (nI mo))) 7 (upd (fil (σ 7) (8 * nb) w (k)) ((8 * nb) + k) w)) 31 (fun _ => 0))) rfl dX6_billet_74 (fun Hp9 lc9 Mz9 => ?_)
      refine lv_iinc (v := nI (k + 1)) (lv' := [(3, .int (nI (k + 1))), (0, .ref o), (1, .int (nI (mo))), (2, .int (w))]) hx hb dX6_billet_75 hl9 (k := 3) rfl (nI_add (k) 1) (by decide) rfl (fun sl9 hl9 => ?_)
      refine lv_goto (tgt := 54) hx hb dX6_billet_78 (by decide) ?_
      exact ih54 (k + 1) (by omega)  _ _ _ Mz9 (lv_sub hl9 [1, 2, 3, 0] rfl)
  exact LP54_1 (8 - 0) (0) (by omega)  _ _ _ (zM_w (by simp only [fil, upS_id] <;> rfl) Mz9) (lv_sub hl9 [1, 2, 3, 0] rfl)
set_option maxHeartbeats 4000000 in
set_option maxRecDepth 100000 in
theorem cm_billetIs_bad (l : Launch) (D : va_G) (T : Nat → ClassId) (o : Nat) (ad : Nat → Nat) (σ : Nat → Nat → Int32) (b w : Int32) (hg : ¬ gth (bin (b) 0 (σ 5 0 - 1)) (bin (w) (0) (8)) (1) = 0) : ZI l yX6_billetIs wsX6_billetIs (zrm 2 45) D T (mW o ad T σ) (mW o ad T (upS σ 31 (fun _ => gth (bin (b) 0 (σ 5 0 - 1)) (bin (w) (0) (8)) (1)))) [.ref o, .int (b), .int (w)] (0) 0 0 := by
  refine z_inI (cc := cX6_billetIs) (maxL := 3) (rt := .int) (by decide +kernel) rfl (Nat.le_of_ble_eq_true rfl) ?_
  intro p e s m args below meth c sl9 A Q Z hnm Mz9 hl9 hret
  have Z : zC p s m args c cX6_billetIs 3 RX6 wsX6_billetIs D T A := Z
  have hx := Z.1.1
  have hb := Z.1.2.1
  have hts := Z.1.2.2.2.2
  have hin6 : ∀ w ∈ wsX60, w ∈ wsX6_billetIs := fun w h => List.mem_cons_of_mem _ (List.mem_append_right _ h)
  have hH0 : s.heap = s.heap := rfl
  have hl9 : lv_has sl9 3 [(0, .ref o), (1, .int (b)), (2, .int (w))] := hl9
  refine lv_aload_n hx hb dX6_billetIs_0 rfl (lv_at hl9 0 rfl) ?_
  refine lv_aload_n hx hb dX6_billetIs_1 rfl (lv_at hl9 0 rfl) ?_
  refine lv_iload_n hx hb dX6_billetIs_2 rfl (lv_at hl9 1 rfl) ?_
  refine z_callAi (As := [.int (b)]) (rest := [.ref o]) (rv := bin (b) 0 (σ 5 0 - 1)) (wc' := mW o ad T σ) Z Mz9 (cm_isBillet l D T o ad (σ) (b)) (cwV 1 hts gX6_billetIs_X6_isBillet rfl rfl rfl (by decide +kernel) ⟨by decide, by decide⟩) (va_recv Z.2.1 Mz9.1 (ci := 7) (q0 := 0) rfl rfl) rfl hl9.1 (Nat.le_of_ble_eq_true rfl) dX6_billetIs_3 ⟨by decide, by decide⟩ rfl (fun Hp9 lc9 Mz9 => ?_)
  refine lv_iload_n hx hb dX6_billetIs_6 rfl (lv_at hl9 2 rfl) ?_
  refine lv_iconst (v := 0) hx hb dX6_billetIs_7 (by decide) ?_
  refine lv_bipush (v := 8) hx hb dX6_billetIs_8 (by decide) ?_
  refine z_callSi (As := [.int (w), .int 0, .int 8]) (rest := [.int (bin (b) 0 (σ 5 0 - 1)), .ref o]) Z.1 (cm_in l (w) (0) (8)) (va_cwS 3 hts gX6_billetIs_X6_in rfl rfl rfl (by decide +kernel) ⟨by decide, by decide⟩) rfl hl9.1 (Nat.le_of_ble_eq_true rfl) dX6_billetIs_10 ⟨by decide, by decide⟩ rfl ?_
  refine lv_iconst (v := 1) hx hb dX6_billetIs_13 (by decide) ?_
  refine z_callAi (As := [.int (bin (b) 0 (σ 5 0 - 1)), .int (bin (w) (0) (8)), .int 1]) (rest := []) (rv := if gth (bin (b) 0 (σ 5 0 - 1)) (bin (w) (0) (8)) (1) = 0 then 1 else 0) (wc' := mW o ad T (upS σ 31 (fun _ => gth (bin (b) 0 (σ 5 0 - 1)) (bin (w) (0) (8)) (1)))) Z Mz9 (cm_goes l D T o ad (σ) (bin (b) 0 (σ 5 0 - 1)) (bin (w) (0) (8)) (1)) (cwV 3 hts gX6_billetIs_X6_goes rfl rfl rfl (by decide +kernel) ⟨by decide, by decide⟩) (va_recv Z.2.1 Mz9.1 (ci := 7) (q0 := 0) rfl rfl) rfl hl9.1 (Nat.le_of_ble_eq_true rfl) dX6_billetIs_14 ⟨by decide, by decide⟩ rfl (fun Hp9 lc9 Mz9 => ?_)
  refine zn_top (y := 0) (if_neg hg) ?_
  refine lv_if_eq (tgt := 29) hx hb dX6_billetIs_17 (by decide) (fun _ => ?_) (fun h => absurd h (by decide))
  refine lv_iconst (v := 0) hx hb dX6_billetIs_29 (by decide) ?_
  exact hret _ _ _ _ _ sl9 _ _ Mz9 (rfl) (rfl) (rfl) (Nat.le_refl _) (Nat.le_refl _) dX6_billetIs_30
set_option maxHeartbeats 4000000 in
set_option maxRecDepth 100000 in
theorem cm_billetIs_ok (l : Launch) (D : va_G) (T : Nat → ClassId) (o : Nat) (ad : Nat → Nat) (σ : Nat → Nat → Int32) (i w : Nat) (hi : i < 12) (hw : w < 9) (h1 : bin (nI i) 0 (σ 5 0 - 1) = 1) (h2 : bin (nI w) 0 8 = 1) : ZI l yX6_billetIs wsX6_billetIs (zrm 2 45) D T (mW o ad T σ) (mW o ad T (upS σ 31 (fun _ => 0))) [.ref o, .int (nI (i)), .int (nI (w))] (tld σ i w) 0 0 := by
  refine z_inI (cc := cX6_billetIs) (maxL := 3) (rt := .int) (by decide +kernel) rfl (Nat.le_of_ble_eq_true rfl) ?_
  intro p e s m args below meth c sl9 A Q Z hnm Mz9 hl9 hret
  have Z : zC p s m args c cX6_billetIs 3 RX6 wsX6_billetIs D T A := Z
  have hx := Z.1.1
  have hb := Z.1.2.1
  have hts := Z.1.2.2.2.2
  have hin6 : ∀ w ∈ wsX60, w ∈ wsX6_billetIs := fun w h => List.mem_cons_of_mem _ (List.mem_append_right _ h)
  have hH0 : s.heap = s.heap := rfl
  have hl9 : lv_has sl9 3 [(0, .ref o), (1, .int (nI (i))), (2, .int (nI (w)))] := hl9
  refine lv_aload_n hx hb dX6_billetIs_0 rfl (lv_at hl9 0 rfl) ?_
  refine lv_aload_n hx hb dX6_billetIs_1 rfl (lv_at hl9 0 rfl) ?_
  refine lv_iload_n hx hb dX6_billetIs_2 rfl (lv_at hl9 1 rfl) ?_
  refine z_callAi (As := [.int (nI (i))]) (rest := [.ref o]) (rv := bin (nI (i)) 0 (σ 5 0 - 1)) (wc' := mW o ad T σ) Z Mz9 (cm_isBillet l D T o ad (σ) (nI (i))) (cwV 1 hts gX6_billetIs_X6_isBillet rfl rfl rfl (by decide +kernel) ⟨by decide, by decide⟩) (va_recv Z.2.1 Mz9.1 (ci := 7) (q0 := 0) rfl rfl) rfl hl9.1 (Nat.le_of_ble_eq_true rfl) dX6_billetIs_3 ⟨by decide, by decide⟩ rfl (fun Hp9 lc9 Mz9 => ?_)
  refine zn_top (y := 1) (h1) ?_
  refine lv_iload_n hx hb dX6_billetIs_6 rfl (lv_at hl9 2 rfl) ?_
  refine lv_iconst (v := 0) hx hb dX6_billetIs_7 (by decide) ?_
  refine lv_bipush (v := 8) hx hb dX6_billetIs_8 (by decide) ?_
  refine z_callSi (As := [.int (nI (w)), .int 0, .int 8]) (rest := [.int 1, .ref o]) Z.1 (cm_in l (nI (w)) (0) (8)) (va_cwS 3 hts gX6_billetIs_X6_in rfl rfl rfl (by decide +kernel) ⟨by decide, by decide⟩) rfl hl9.1 (Nat.le_of_ble_eq_true rfl) dX6_billetIs_10 ⟨by decide, by decide⟩ rfl ?_
  refine zn_top (y := 1) (h2) ?_
  refine lv_iconst (v := 1) hx hb dX6_billetIs_13 (by decide) ?_
  refine z_callAi (As := [.int 1, .int 1, .int 1]) (rest := []) (rv := if gth (1) (1) (1) = 0 then 1 else 0) (wc' := mW o ad T (upS σ 31 (fun _ => 0))) Z Mz9 (cm_goes l D T o ad (σ) (1) (1) (1)) (cwV 3 hts gX6_billetIs_X6_goes rfl rfl rfl (by decide +kernel) ⟨by decide, by decide⟩) (va_recv Z.2.1 Mz9.1 (ci := 7) (q0 := 0) rfl rfl) rfl hl9.1 (Nat.le_of_ble_eq_true rfl) dX6_billetIs_14 ⟨by decide, by decide⟩ rfl (fun Hp9 lc9 Mz9 => ?_)
  refine zn_top (y := 1) (by decide) ?_
  refine lv_if_eq (tgt := 29) hx hb dX6_billetIs_17 (by decide) (fun h => absurd h (by decide)) (fun _ => ?_)
  refine lv_aload_n hx hb dX6_billetIs_20 rfl (lv_at hl9 0 rfl) ?_
  refine lv_iload_n hx hb dX6_billetIs_21 rfl (lv_at hl9 1 rfl) ?_
  refine lv_iload_n hx hb dX6_billetIs_22 rfl (lv_at hl9 2 rfl) ?_
  refine z_callAi (As := [.int (nI (i)), .int (nI (w))]) (rest := []) (rv := tld (upS σ 31 (fun _ => 0)) (i) (w)) (wc' := mW o ad T (upS σ 31 (fun _ => 0))) Z Mz9 (cm_told l D T o ad (upS σ 31 (fun _ => 0)) (i) (w) (by omega) (by omega)) (cwV 2 hts gX6_billetIs_X6_told rfl rfl rfl (by decide +kernel) ⟨by decide, by decide⟩) (va_recv Z.2.1 Mz9.1 (ci := 7) (q0 := 0) rfl rfl) rfl hl9.1 (Nat.le_of_ble_eq_true rfl) dX6_billetIs_23 ⟨by decide, by decide⟩ rfl (fun Hp9 lc9 Mz9 => ?_)
  refine lv_goto (tgt := 30) hx hb dX6_billetIs_26 (by decide) ?_
  exact hret _ _ _ _ _ sl9 _ _ Mz9 (rfl) (tld_31 _ _ _ _) (rfl) (Nat.le_refl _) (Nat.le_refl _) dX6_billetIs_30
set_option maxHeartbeats 4000000 in
set_option maxRecDepth 100000 in
theorem cm_area_bad (l : Launch) (D : va_G) (T : Nat → ClassId) (o : Nat) (ad : Nat → Nat) (σ : Nat → Nat → Int32) (b t : Int32) (hg : ¬ gth (if bin (b) 0 (σ 5 0 - 1) = 0 then 0 else if bin (t) 0 7 = 0 then 0 else 1) (1) (1) = 0) : ZI l yX6_area wsX6_area (zrm 2 43) D T (mW o ad T σ) (mW o ad T (upS σ 31 (fun _ => gth (if bin (b) 0 (σ 5 0 - 1) = 0 then 0 else if bin (t) 0 7 = 0 then 0 else 1) (1) (1)))) [.ref o, .int (b), .int (t)] (0) 0 0 := by
  refine z_inI (cc := cX6_area) (maxL := 3) (rt := .int) (by decide +kernel) rfl (Nat.le_of_ble_eq_true rfl) ?_
  intro p e s m args below meth c sl9 A Q Z hnm Mz9 hl9 hret
  have Z : zC p s m args c cX6_area 3 RX6 wsX6_area D T A := Z
  have hx := Z.1.1
  have hb := Z.1.2.1
  have hts := Z.1.2.2.2.2
  have hin6 : ∀ w ∈ wsX60, w ∈ wsX6_area := fun w h => List.mem_cons_of_mem _ (List.mem_append_right _ h)
  have hH0 : s.heap = s.heap := rfl
  have L25 := hts (.fieldLink RX6 25 "AnvilHouseModel" "areas" "[I") (by decide +kernel)
  have hl9 : lv_has sl9 3 [(0, .ref o), (1, .int (b)), (2, .int (t))] := hl9
  refine lv_aload_n hx hb dX6_area_0 rfl (lv_at hl9 0 rfl) ?_
  refine lv_aload_n hx hb dX6_area_1 rfl (lv_at hl9 0 rfl) ?_
  refine lv_iload_n hx hb dX6_area_2 rfl (lv_at hl9 1 rfl) ?_
  refine z_callAi (As := [.int (b)]) (rest := [.ref o]) (rv := bin (b) 0 (σ 5 0 - 1)) (wc' := mW o ad T σ) Z Mz9 (cm_isBillet l D T o ad (σ) (b)) (cwV 1 hts gX6_area_X6_isBillet rfl rfl rfl (by decide +kernel) ⟨by decide, by decide⟩) (va_recv Z.2.1 Mz9.1 (ci := 7) (q0 := 0) rfl rfl) rfl hl9.1 (Nat.le_of_ble_eq_true rfl) dX6_area_3 ⟨by decide, by decide⟩ rfl (fun Hp9 lc9 Mz9 => ?_)
  refine lv_if_eq (tgt := 20) hx hb dX6_area_6 (by decide) (fun c_1 => ?_) (fun c_1 => ?_)
  ·
    refine lv_iconst (v := 0) hx hb dX6_area_20 (by decide) ?_
    refine lv_iconst (v := 1) hx hb dX6_area_21 (by decide) ?_
    refine lv_iconst (v := 1) hx hb dX6_area_22 (by decide) ?_
    refine z_callAi (As := [.int 0, .int 1, .int 1]) (rest := []) (rv := if gth (0) (1) (1) = 0 then 1 else 0) (wc' := mW o ad T (upS σ 31 (fun _ => gth (0) (1) (1)))) Z Mz9 (cm_goes l D T o ad (σ) (0) (1) (1)) (cwV 3 hts gX6_area_X6_goes rfl rfl rfl (by decide +kernel) ⟨by decide, by decide⟩) (va_recv Z.2.1 Mz9.1 (ci := 7) (q0 := 0) rfl rfl) rfl hl9.1 (Nat.le_of_ble_eq_true rfl) dX6_area_23 ⟨by decide, by decide⟩ rfl (fun Hp9 lc9 Mz9 => ?_)
    refine zn_top (y := 0) (by have h := hg; simp only [if_pos c_1] at h; exact if_neg h) ?_
    refine lv_if_eq (tgt := 43) hx hb dX6_area_26 (by decide) (fun _ => ?_) (fun h => absurd h (by decide))
    refine lv_iconst (v := 0) hx hb dX6_area_43 (by decide) ?_
    exact hret _ _ _ _ _ sl9 _ _ Mz9 (by simp only [if_pos c_1] <;> rfl) (rfl) (rfl) (Nat.le_refl _) (Nat.le_refl _) dX6_area_44
  ·
    refine lv_iload_n hx hb dX6_area_9 rfl (lv_at hl9 2 rfl) ?_
    refine z_callSi (As := [.int (t)]) (rest := [.ref o]) Z.1 (cm_isSection l (t)) (va_cwS 1 hts gX6_area_X6_isSection rfl rfl rfl (by decide +kernel) ⟨by decide, by decide⟩) rfl hl9.1 (Nat.le_of_ble_eq_true rfl) dX6_area_10 ⟨by decide, by decide⟩ rfl ?_
    refine lv_if_eq (tgt := 20) hx hb dX6_area_13 (by decide) (fun c_2 => ?_) (fun c_2 => ?_)
    ·
      refine lv_iconst (v := 0) hx hb dX6_area_20 (by decide) ?_
      refine lv_iconst (v := 1) hx hb dX6_area_21 (by decide) ?_
      refine lv_iconst (v := 1) hx hb dX6_area_22 (by decide) ?_
      refine z_callAi (As := [.int 0, .int 1, .int 1]) (rest := []) (rv := if gth (0) (1) (1) = 0 then 1 else 0) (wc' := mW o ad T (upS σ 31 (fun _ => gth (0) (1) (1)))) Z Mz9 (cm_goes l D T o ad (σ) (0) (1) (1)) (cwV 3 hts gX6_area_X6_goes rfl rfl rfl (by decide +kernel) ⟨by decide, by decide⟩) (va_recv Z.2.1 Mz9.1 (ci := 7) (q0 := 0) rfl rfl) rfl hl9.1 (Nat.le_of_ble_eq_true rfl) dX6_area_23 ⟨by decide, by decide⟩ rfl (fun Hp9 lc9 Mz9 => ?_)
      refine zn_top (y := 0) (by have h := hg; simp only [if_neg c_1, if_pos c_2] at h; exact if_neg h) ?_
      refine lv_if_eq (tgt := 43) hx hb dX6_area_26 (by decide) (fun _ => ?_) (fun h => absurd h (by decide))
      refine lv_iconst (v := 0) hx hb dX6_area_43 (by decide) ?_
      exact hret _ _ _ _ _ sl9 _ _ Mz9 (by simp only [if_neg c_1, if_pos c_2] <;> rfl) (rfl) (rfl) (Nat.le_refl _) (Nat.le_refl _) dX6_area_44
    ·
      refine lv_iconst (v := 1) hx hb dX6_area_16 (by decide) ?_
      refine lv_goto (tgt := 21) hx hb dX6_area_17 (by decide) ?_
      refine lv_iconst (v := 1) hx hb dX6_area_21 (by decide) ?_
      refine lv_iconst (v := 1) hx hb dX6_area_22 (by decide) ?_
      refine z_callAi (As := [.int 1, .int 1, .int 1]) (rest := []) (rv := if gth (1) (1) (1) = 0 then 1 else 0) (wc' := mW o ad T (upS σ 31 (fun _ => 0))) Z Mz9 (cm_goes l D T o ad (σ) (1) (1) (1)) (cwV 3 hts gX6_area_X6_goes rfl rfl rfl (by decide +kernel) ⟨by decide, by decide⟩) (va_recv Z.2.1 Mz9.1 (ci := 7) (q0 := 0) rfl rfl) rfl hl9.1 (Nat.le_of_ble_eq_true rfl) dX6_area_23 ⟨by decide, by decide⟩ rfl (fun Hp9 lc9 Mz9 => ?_)
      refine zn_top (y := 0) (by have h := hg; simp only [if_neg c_1, if_neg c_2] at h; exact if_neg h) ?_
      refine lv_if_eq (tgt := 43) hx hb dX6_area_26 (by decide) (fun _ => ?_) (fun h => absurd h (by decide))
      refine lv_iconst (v := 0) hx hb dX6_area_43 (by decide) ?_
      exact hret _ _ _ _ _ sl9 _ _ Mz9 (by simp only [if_neg c_1, if_neg c_2] <;> rfl) (rfl) (rfl) (Nat.le_refl _) (Nat.le_refl _) dX6_area_44
set_option maxHeartbeats 4000000 in
set_option maxRecDepth 100000 in
theorem cm_area_ok (l : Launch) (D : va_G) (T : Nat → ClassId) (o : Nat) (ad : Nat → Nat) (σ : Nat → Nat → Int32) (i j : Nat) (hi : i < 12) (hj : j < 8) (h1 : bin (nI i) 0 (σ 5 0 - 1) = 1) (h2 : bin (nI j) 0 7 = 1) : ZI l yX6_area wsX6_area (zrm 2 43) D T (mW o ad T σ) (mW o ad T (upS σ 31 (fun _ => 0))) [.ref o, .int (nI (i)), .int (nI (j))] (σ 7 (8 * i + j)) 0 0 := by
  refine z_inI (cc := cX6_area) (maxL := 3) (rt := .int) (by decide +kernel) rfl (Nat.le_of_ble_eq_true rfl) ?_
  intro p e s m args below meth c sl9 A Q Z hnm Mz9 hl9 hret
  have Z : zC p s m args c cX6_area 3 RX6 wsX6_area D T A := Z
  have hx := Z.1.1
  have hb := Z.1.2.1
  have hts := Z.1.2.2.2.2
  have hin6 : ∀ w ∈ wsX60, w ∈ wsX6_area := fun w h => List.mem_cons_of_mem _ (List.mem_append_right _ h)
  have hH0 : s.heap = s.heap := rfl
  have L25 := hts (.fieldLink RX6 25 "AnvilHouseModel" "areas" "[I") (by decide +kernel)
  have hl9 : lv_has sl9 3 [(0, .ref o), (1, .int (nI (i))), (2, .int (nI (j)))] := hl9
  refine lv_aload_n hx hb dX6_area_0 rfl (lv_at hl9 0 rfl) ?_
  refine lv_aload_n hx hb dX6_area_1 rfl (lv_at hl9 0 rfl) ?_
  refine lv_iload_n hx hb dX6_area_2 rfl (lv_at hl9 1 rfl) ?_
  refine z_callAi (As := [.int (nI (i))]) (rest := [.ref o]) (rv := bin (nI (i)) 0 (σ 5 0 - 1)) (wc' := mW o ad T σ) Z Mz9 (cm_isBillet l D T o ad (σ) (nI (i))) (cwV 1 hts gX6_area_X6_isBillet rfl rfl rfl (by decide +kernel) ⟨by decide, by decide⟩) (va_recv Z.2.1 Mz9.1 (ci := 7) (q0 := 0) rfl rfl) rfl hl9.1 (Nat.le_of_ble_eq_true rfl) dX6_area_3 ⟨by decide, by decide⟩ rfl (fun Hp9 lc9 Mz9 => ?_)
  refine zn_top (y := 1) (h1) ?_
  refine lv_if_eq (tgt := 20) hx hb dX6_area_6 (by decide) (fun h => absurd h (by decide)) (fun _ => ?_)
  refine lv_iload_n hx hb dX6_area_9 rfl (lv_at hl9 2 rfl) ?_
  refine z_callSi (As := [.int (nI (j))]) (rest := [.ref o]) Z.1 (cm_isSection l (nI (j))) (va_cwS 1 hts gX6_area_X6_isSection rfl rfl rfl (by decide +kernel) ⟨by decide, by decide⟩) rfl hl9.1 (Nat.le_of_ble_eq_true rfl) dX6_area_10 ⟨by decide, by decide⟩ rfl ?_
  refine zn_top (y := 1) (h2) ?_
  refine lv_if_eq (tgt := 20) hx hb dX6_area_13 (by decide) (fun h => absurd h (by decide)) (fun _ => ?_)
  refine lv_iconst (v := 1) hx hb dX6_area_16 (by decide) ?_
  refine lv_goto (tgt := 21) hx hb dX6_area_17 (by decide) ?_
  refine lv_iconst (v := 1) hx hb dX6_area_21 (by decide) ?_
  refine lv_iconst (v := 1) hx hb dX6_area_22 (by decide) ?_
  refine z_callAi (As := [.int 1, .int 1, .int 1]) (rest := []) (rv := if gth (1) (1) (1) = 0 then 1 else 0) (wc' := mW o ad T (upS σ 31 (fun _ => 0))) Z Mz9 (cm_goes l D T o ad (σ) (1) (1) (1)) (cwV 3 hts gX6_area_X6_goes rfl rfl rfl (by decide +kernel) ⟨by decide, by decide⟩) (va_recv Z.2.1 Mz9.1 (ci := 7) (q0 := 0) rfl rfl) rfl hl9.1 (Nat.le_of_ble_eq_true rfl) dX6_area_23 ⟨by decide, by decide⟩ rfl (fun Hp9 lc9 Mz9 => ?_)
  refine zn_top (y := 1) (by decide) ?_
  refine lv_if_eq (tgt := 43) hx hb dX6_area_26 (by decide) (fun h => absurd h (by decide)) (fun _ => ?_)
  refine lv_aload_n hx hb dX6_area_29 rfl (lv_at hl9 0 rfl) ?_
  refine z_getf Z Mz9 hin6 0 rfl rfl 7 (by decide) L25 rfl (v := .ref (ad 7)) rfl dX6_area_30 ?_
  refine lv_bipush (v := 8) hx hb dX6_area_33 (by decide) ?_
  refine lv_iload_n hx hb dX6_area_35 rfl (lv_at hl9 1 rfl) ?_
  refine zn_imul (a := 8) (b := i) hx hb dX6_area_36 ?_
  refine lv_iload_n hx hb dX6_area_37 rfl (lv_at hl9 2 rfl) ?_
  refine zn_iadd (a := 8 * i) (b := j) hx hb dX6_area_38 ?_
  refine z_iald Z Mz9 6 (h0 := ad 7) (n := 96) (f := σ 7) rfl (j := (8 * i) + j) (by omega) (by decide) dX6_area_39 ?_
  refine lv_goto (tgt := 44) hx hb dX6_area_40 (by decide) ?_
  exact hret _ _ _ _ _ sl9 _ _ Mz9 (rfl) (rfl) (rfl) (Nat.le_refl _) (Nat.le_refl _) dX6_area_44
set_option maxHeartbeats 4000000 in
set_option maxRecDepth 100000 in
theorem cm_hardness_bad (l : Launch) (D : va_G) (T : Nat → ClassId) (o : Nat) (ad : Nat → Nat) (σ : Nat → Nat → Int32) (b t : Int32) (hg : ¬ gth (if bin (b) 0 (σ 5 0 - 1) = 0 then 0 else if bin (t) 0 7 = 0 then 0 else 1) (1) (1) = 0) : ZI l yX6_hardness wsX6_hardness (zrm 2 43) D T (mW o ad T σ) (mW o ad T (upS σ 31 (fun _ => gth (if bin (b) 0 (σ 5 0 - 1) = 0 then 0 else if bin (t) 0 7 = 0 then 0 else 1) (1) (1)))) [.ref o, .int (b), .int (t)] (0) 0 0 := by
  refine z_inI (cc := cX6_hardness) (maxL := 3) (rt := .int) (by decide +kernel) rfl (Nat.le_of_ble_eq_true rfl) ?_
  intro p e s m args below meth c sl9 A Q Z hnm Mz9 hl9 hret
  have Z : zC p s m args c cX6_hardness 3 RX6 wsX6_hardness D T A := Z
  have hx := Z.1.1
  have hb := Z.1.2.1
  have hts := Z.1.2.2.2.2
  have hin6 : ∀ w ∈ wsX60, w ∈ wsX6_hardness := fun w h => List.mem_cons_of_mem _ (List.mem_append_right _ h)
  have hH0 : s.heap = s.heap := rfl
  have hl9 : lv_has sl9 3 [(0, .ref o), (1, .int (b)), (2, .int (t))] := hl9
  refine lv_aload_n hx hb dX6_hardness_0 rfl (lv_at hl9 0 rfl) ?_
  refine lv_aload_n hx hb dX6_hardness_1 rfl (lv_at hl9 0 rfl) ?_
  refine lv_iload_n hx hb dX6_hardness_2 rfl (lv_at hl9 1 rfl) ?_
  refine z_callAi (As := [.int (b)]) (rest := [.ref o]) (rv := bin (b) 0 (σ 5 0 - 1)) (wc' := mW o ad T σ) Z Mz9 (cm_isBillet l D T o ad (σ) (b)) (cwV 1 hts gX6_hardness_X6_isBillet rfl rfl rfl (by decide +kernel) ⟨by decide, by decide⟩) (va_recv Z.2.1 Mz9.1 (ci := 7) (q0 := 0) rfl rfl) rfl hl9.1 (Nat.le_of_ble_eq_true rfl) dX6_hardness_3 ⟨by decide, by decide⟩ rfl (fun Hp9 lc9 Mz9 => ?_)
  refine lv_if_eq (tgt := 20) hx hb dX6_hardness_6 (by decide) (fun c_1 => ?_) (fun c_1 => ?_)
  ·
    refine lv_iconst (v := 0) hx hb dX6_hardness_20 (by decide) ?_
    refine lv_iconst (v := 1) hx hb dX6_hardness_21 (by decide) ?_
    refine lv_iconst (v := 1) hx hb dX6_hardness_22 (by decide) ?_
    refine z_callAi (As := [.int 0, .int 1, .int 1]) (rest := []) (rv := if gth (0) (1) (1) = 0 then 1 else 0) (wc' := mW o ad T (upS σ 31 (fun _ => gth (0) (1) (1)))) Z Mz9 (cm_goes l D T o ad (σ) (0) (1) (1)) (cwV 3 hts gX6_hardness_X6_goes rfl rfl rfl (by decide +kernel) ⟨by decide, by decide⟩) (va_recv Z.2.1 Mz9.1 (ci := 7) (q0 := 0) rfl rfl) rfl hl9.1 (Nat.le_of_ble_eq_true rfl) dX6_hardness_23 ⟨by decide, by decide⟩ rfl (fun Hp9 lc9 Mz9 => ?_)
    refine zn_top (y := 0) (by have h := hg; simp only [if_pos c_1] at h; exact if_neg h) ?_
    refine lv_if_eq (tgt := 38) hx hb dX6_hardness_26 (by decide) (fun _ => ?_) (fun h => absurd h (by decide))
    refine lv_iconst (v := 0) hx hb dX6_hardness_38 (by decide) ?_
    exact hret _ _ _ _ _ sl9 _ _ Mz9 (by simp only [if_pos c_1] <;> rfl) (rfl) (rfl) (Nat.le_refl _) (Nat.le_refl _) dX6_hardness_39
  ·
    refine lv_iload_n hx hb dX6_hardness_9 rfl (lv_at hl9 2 rfl) ?_
    refine z_callSi (As := [.int (t)]) (rest := [.ref o]) Z.1 (cm_isSection l (t)) (va_cwS 1 hts gX6_hardness_X6_isSection rfl rfl rfl (by decide +kernel) ⟨by decide, by decide⟩) rfl hl9.1 (Nat.le_of_ble_eq_true rfl) dX6_hardness_10 ⟨by decide, by decide⟩ rfl ?_
    refine lv_if_eq (tgt := 20) hx hb dX6_hardness_13 (by decide) (fun c_2 => ?_) (fun c_2 => ?_)
    ·
      refine lv_iconst (v := 0) hx hb dX6_hardness_20 (by decide) ?_
      refine lv_iconst (v := 1) hx hb dX6_hardness_21 (by decide) ?_
      refine lv_iconst (v := 1) hx hb dX6_hardness_22 (by decide) ?_
      refine z_callAi (As := [.int 0, .int 1, .int 1]) (rest := []) (rv := if gth (0) (1) (1) = 0 then 1 else 0) (wc' := mW o ad T (upS σ 31 (fun _ => gth (0) (1) (1)))) Z Mz9 (cm_goes l D T o ad (σ) (0) (1) (1)) (cwV 3 hts gX6_hardness_X6_goes rfl rfl rfl (by decide +kernel) ⟨by decide, by decide⟩) (va_recv Z.2.1 Mz9.1 (ci := 7) (q0 := 0) rfl rfl) rfl hl9.1 (Nat.le_of_ble_eq_true rfl) dX6_hardness_23 ⟨by decide, by decide⟩ rfl (fun Hp9 lc9 Mz9 => ?_)
      refine zn_top (y := 0) (by have h := hg; simp only [if_neg c_1, if_pos c_2] at h; exact if_neg h) ?_
      refine lv_if_eq (tgt := 38) hx hb dX6_hardness_26 (by decide) (fun _ => ?_) (fun h => absurd h (by decide))
      refine lv_iconst (v := 0) hx hb dX6_hardness_38 (by decide) ?_
      exact hret _ _ _ _ _ sl9 _ _ Mz9 (by simp only [if_neg c_1, if_pos c_2] <;> rfl) (rfl) (rfl) (Nat.le_refl _) (Nat.le_refl _) dX6_hardness_39
    ·
      refine lv_iconst (v := 1) hx hb dX6_hardness_16 (by decide) ?_
      refine lv_goto (tgt := 21) hx hb dX6_hardness_17 (by decide) ?_
      refine lv_iconst (v := 1) hx hb dX6_hardness_21 (by decide) ?_
      refine lv_iconst (v := 1) hx hb dX6_hardness_22 (by decide) ?_
      refine z_callAi (As := [.int 1, .int 1, .int 1]) (rest := []) (rv := if gth (1) (1) (1) = 0 then 1 else 0) (wc' := mW o ad T (upS σ 31 (fun _ => 0))) Z Mz9 (cm_goes l D T o ad (σ) (1) (1) (1)) (cwV 3 hts gX6_hardness_X6_goes rfl rfl rfl (by decide +kernel) ⟨by decide, by decide⟩) (va_recv Z.2.1 Mz9.1 (ci := 7) (q0 := 0) rfl rfl) rfl hl9.1 (Nat.le_of_ble_eq_true rfl) dX6_hardness_23 ⟨by decide, by decide⟩ rfl (fun Hp9 lc9 Mz9 => ?_)
      refine zn_top (y := 0) (by have h := hg; simp only [if_neg c_1, if_neg c_2] at h; exact if_neg h) ?_
      refine lv_if_eq (tgt := 38) hx hb dX6_hardness_26 (by decide) (fun _ => ?_) (fun h => absurd h (by decide))
      refine lv_iconst (v := 0) hx hb dX6_hardness_38 (by decide) ?_
      exact hret _ _ _ _ _ sl9 _ _ Mz9 (by simp only [if_neg c_1, if_neg c_2] <;> rfl) (rfl) (rfl) (Nat.le_refl _) (Nat.le_refl _) dX6_hardness_39
set_option maxHeartbeats 4000000 in
set_option maxRecDepth 100000 in
theorem cm_hardness_ok (l : Launch) (D : va_G) (T : Nat → ClassId) (o : Nat) (ad : Nat → Nat) (σ : Nat → Nat → Int32) (i j : Nat) (hi : i < 12) (hj : j < 8) (h1 : bin (nI i) 0 (σ 5 0 - 1) = 1) (h2 : bin (nI j) 0 7 = 1) : ZI l yX6_hardness wsX6_hardness (zrm 2 43) D T (mW o ad T σ) (mW o ad T (upS σ 31 (fun _ => 0))) [.ref o, .int (nI (i)), .int (nI (j))] (hrd (σ 8 (8 * i + j)) (σ 17 i)) 0 0 := by
  refine z_inI (cc := cX6_hardness) (maxL := 3) (rt := .int) (by decide +kernel) rfl (Nat.le_of_ble_eq_true rfl) ?_
  intro p e s m args below meth c sl9 A Q Z hnm Mz9 hl9 hret
  have Z : zC p s m args c cX6_hardness 3 RX6 wsX6_hardness D T A := Z
  have hx := Z.1.1
  have hb := Z.1.2.1
  have hts := Z.1.2.2.2.2
  have hin6 : ∀ w ∈ wsX60, w ∈ wsX6_hardness := fun w h => List.mem_cons_of_mem _ (List.mem_append_right _ h)
  have hH0 : s.heap = s.heap := rfl
  have hl9 : lv_has sl9 3 [(0, .ref o), (1, .int (nI (i))), (2, .int (nI (j)))] := hl9
  refine lv_aload_n hx hb dX6_hardness_0 rfl (lv_at hl9 0 rfl) ?_
  refine lv_aload_n hx hb dX6_hardness_1 rfl (lv_at hl9 0 rfl) ?_
  refine lv_iload_n hx hb dX6_hardness_2 rfl (lv_at hl9 1 rfl) ?_
  refine z_callAi (As := [.int (nI (i))]) (rest := [.ref o]) (rv := bin (nI (i)) 0 (σ 5 0 - 1)) (wc' := mW o ad T σ) Z Mz9 (cm_isBillet l D T o ad (σ) (nI (i))) (cwV 1 hts gX6_hardness_X6_isBillet rfl rfl rfl (by decide +kernel) ⟨by decide, by decide⟩) (va_recv Z.2.1 Mz9.1 (ci := 7) (q0 := 0) rfl rfl) rfl hl9.1 (Nat.le_of_ble_eq_true rfl) dX6_hardness_3 ⟨by decide, by decide⟩ rfl (fun Hp9 lc9 Mz9 => ?_)
  refine zn_top (y := 1) (h1) ?_
  refine lv_if_eq (tgt := 20) hx hb dX6_hardness_6 (by decide) (fun h => absurd h (by decide)) (fun _ => ?_)
  refine lv_iload_n hx hb dX6_hardness_9 rfl (lv_at hl9 2 rfl) ?_
  refine z_callSi (As := [.int (nI (j))]) (rest := [.ref o]) Z.1 (cm_isSection l (nI (j))) (va_cwS 1 hts gX6_hardness_X6_isSection rfl rfl rfl (by decide +kernel) ⟨by decide, by decide⟩) rfl hl9.1 (Nat.le_of_ble_eq_true rfl) dX6_hardness_10 ⟨by decide, by decide⟩ rfl ?_
  refine zn_top (y := 1) (h2) ?_
  refine lv_if_eq (tgt := 20) hx hb dX6_hardness_13 (by decide) (fun h => absurd h (by decide)) (fun _ => ?_)
  refine lv_iconst (v := 1) hx hb dX6_hardness_16 (by decide) ?_
  refine lv_goto (tgt := 21) hx hb dX6_hardness_17 (by decide) ?_
  refine lv_iconst (v := 1) hx hb dX6_hardness_21 (by decide) ?_
  refine lv_iconst (v := 1) hx hb dX6_hardness_22 (by decide) ?_
  refine z_callAi (As := [.int 1, .int 1, .int 1]) (rest := []) (rv := if gth (1) (1) (1) = 0 then 1 else 0) (wc' := mW o ad T (upS σ 31 (fun _ => 0))) Z Mz9 (cm_goes l D T o ad (σ) (1) (1) (1)) (cwV 3 hts gX6_hardness_X6_goes rfl rfl rfl (by decide +kernel) ⟨by decide, by decide⟩) (va_recv Z.2.1 Mz9.1 (ci := 7) (q0 := 0) rfl rfl) rfl hl9.1 (Nat.le_of_ble_eq_true rfl) dX6_hardness_23 ⟨by decide, by decide⟩ rfl (fun Hp9 lc9 Mz9 => ?_)
  refine zn_top (y := 1) (by decide) ?_
  refine lv_if_eq (tgt := 38) hx hb dX6_hardness_26 (by decide) (fun h => absurd h (by decide)) (fun _ => ?_)
  refine lv_aload_n hx hb dX6_hardness_29 rfl (lv_at hl9 0 rfl) ?_
  refine lv_iload_n hx hb dX6_hardness_30 rfl (lv_at hl9 1 rfl) ?_
  refine lv_iload_n hx hb dX6_hardness_31 rfl (lv_at hl9 2 rfl) ?_
  refine z_callAi (As := [.int (nI (i)), .int (nI (j))]) (rest := []) (rv := hrd ((σ 8) (8 * i + j)) ((σ 17) i)) (wc' := mW o ad T (upS σ 31 (fun _ => 0))) Z Mz9 (cm_hardnessOf l D T o ad (upS σ 31 (fun _ => 0)) (i) (j) (by omega) (by omega)) (cwV 2 hts gX6_hardness_X6_hardnessOf rfl rfl rfl (by decide +kernel) ⟨by decide, by decide⟩) (va_recv Z.2.1 Mz9.1 (ci := 7) (q0 := 0) rfl rfl) rfl hl9.1 (Nat.le_of_ble_eq_true rfl) dX6_hardness_32 ⟨by decide, by decide⟩ rfl (fun Hp9 lc9 Mz9 => ?_)
  refine lv_goto (tgt := 39) hx hb dX6_hardness_35 (by decide) ?_
  exact hret _ _ _ _ _ sl9 _ _ Mz9 (rfl) (rfl) (rfl) (Nat.le_refl _) (Nat.le_refl _) dX6_hardness_39
set_option maxHeartbeats 4000000 in
set_option maxRecDepth 100000 in
theorem cm_balances_bad (l : Launch) (D : va_G) (T : Nat → ClassId) (o : Nat) (ad : Nat → Nat) (σ : Nat → Nat → Int32) (b : Int32) (hg : ¬ gth (bin (b) 0 (σ 5 0 - 1)) (1) (1) = 0) : ZI l yX6_balances wsX6_balances (zrm 2 43) D T (mW o ad T σ) (mW o ad T (upS σ 31 (fun _ => gth (bin (b) 0 (σ 5 0 - 1)) (1) (1)))) [.ref o, .int (b)] (0) 0 0 := by
  refine z_inI (cc := cX6_balances) (maxL := 2) (rt := .boolean) (by decide +kernel) rfl (Nat.le_of_ble_eq_true rfl) ?_
  intro p e s m args below meth c sl9 A Q Z hnm Mz9 hl9 hret
  have Z : zC p s m args c cX6_balances 2 RX6 wsX6_balances D T A := Z
  have hx := Z.1.1
  have hb := Z.1.2.1
  have hts := Z.1.2.2.2.2
  have hin6 : ∀ w ∈ wsX60, w ∈ wsX6_balances := fun w h => List.mem_cons_of_mem _ (List.mem_append_right _ h)
  have hH0 : s.heap = s.heap := rfl
  have L62 := hts (.fieldLink RX6 62 "AnvilHouseModel" "made" "[I") (by decide +kernel)
  have L65 := hts (.fieldLink RX6 65 "AnvilHouseModel" "lost" "[I") (by decide +kernel)
  have hl9 : lv_has sl9 2 [(0, .ref o), (1, .int (b))] := hl9
  refine lv_aload_n hx hb dX6_balances_0 rfl (lv_at hl9 0 rfl) ?_
  refine lv_aload_n hx hb dX6_balances_1 rfl (lv_at hl9 0 rfl) ?_
  refine lv_iload_n hx hb dX6_balances_2 rfl (lv_at hl9 1 rfl) ?_
  refine z_callAi (As := [.int (b)]) (rest := [.ref o]) (rv := bin (b) 0 (σ 5 0 - 1)) (wc' := mW o ad T σ) Z Mz9 (cm_isBillet l D T o ad (σ) (b)) (cwV 1 hts gX6_balances_X6_isBillet rfl rfl rfl (by decide +kernel) ⟨by decide, by decide⟩) (va_recv Z.2.1 Mz9.1 (ci := 7) (q0 := 0) rfl rfl) rfl hl9.1 (Nat.le_of_ble_eq_true rfl) dX6_balances_3 ⟨by decide, by decide⟩ rfl (fun Hp9 lc9 Mz9 => ?_)
  refine lv_iconst (v := 1) hx hb dX6_balances_6 (by decide) ?_
  refine lv_iconst (v := 1) hx hb dX6_balances_7 (by decide) ?_
  refine z_callAi (As := [.int (bin (b) 0 (σ 5 0 - 1)), .int 1, .int 1]) (rest := []) (rv := if gth (bin (b) 0 (σ 5 0 - 1)) (1) (1) = 0 then 1 else 0) (wc' := mW o ad T (upS σ 31 (fun _ => gth (bin (b) 0 (σ 5 0 - 1)) (1) (1)))) Z Mz9 (cm_goes l D T o ad (σ) (bin (b) 0 (σ 5 0 - 1)) (1) (1)) (cwV 3 hts gX6_balances_X6_goes rfl rfl rfl (by decide +kernel) ⟨by decide, by decide⟩) (va_recv Z.2.1 Mz9.1 (ci := 7) (q0 := 0) rfl rfl) rfl hl9.1 (Nat.le_of_ble_eq_true rfl) dX6_balances_8 ⟨by decide, by decide⟩ rfl (fun Hp9 lc9 Mz9 => ?_)
  refine zn_top (y := 0) (if_neg hg) ?_
  refine lv_if_eq (tgt := 39) hx hb dX6_balances_11 (by decide) (fun _ => ?_) (fun h => absurd h (by decide))
  refine lv_iconst (v := 0) hx hb dX6_balances_39 (by decide) ?_
  exact hret _ _ _ _ _ sl9 _ _ Mz9 (rfl) (rfl) (rfl) (Nat.le_refl _) (Nat.le_refl _) dX6_balances_40
set_option maxHeartbeats 4000000 in
set_option maxRecDepth 100000 in
theorem cm_balances_ok (l : Launch) (D : va_G) (T : Nat → ClassId) (o : Nat) (ad : Nat → Nat) (σ : Nat → Nat → Int32) (i : Nat) (hi : i < 12) (h1 : bin (nI i) 0 (σ 5 0 - 1) = 1) : ZI l yX6_balances wsX6_balances (zrm 2 43) D T (mW o ad T σ) (mW o ad T (upS σ 31 (fun _ => 0))) [.ref o, .int (nI (i))] (if VO (σ 7) (8 * i) = σ 19 i - σ 20 i then 1 else 0) 0 0 := by
  refine z_inI (cc := cX6_balances) (maxL := 2) (rt := .boolean) (by decide +kernel) rfl (Nat.le_of_ble_eq_true rfl) ?_
  intro p e s m args below meth c sl9 A Q Z hnm Mz9 hl9 hret
  have Z : zC p s m args c cX6_balances 2 RX6 wsX6_balances D T A := Z
  have hx := Z.1.1
  have hb := Z.1.2.1
  have hts := Z.1.2.2.2.2
  have hin6 : ∀ w ∈ wsX60, w ∈ wsX6_balances := fun w h => List.mem_cons_of_mem _ (List.mem_append_right _ h)
  have hH0 : s.heap = s.heap := rfl
  have L62 := hts (.fieldLink RX6 62 "AnvilHouseModel" "made" "[I") (by decide +kernel)
  have L65 := hts (.fieldLink RX6 65 "AnvilHouseModel" "lost" "[I") (by decide +kernel)
  have hl9 : lv_has sl9 2 [(0, .ref o), (1, .int (nI (i)))] := hl9
  refine lv_aload_n hx hb dX6_balances_0 rfl (lv_at hl9 0 rfl) ?_
  refine lv_aload_n hx hb dX6_balances_1 rfl (lv_at hl9 0 rfl) ?_
  refine lv_iload_n hx hb dX6_balances_2 rfl (lv_at hl9 1 rfl) ?_
  refine z_callAi (As := [.int (nI (i))]) (rest := [.ref o]) (rv := bin (nI (i)) 0 (σ 5 0 - 1)) (wc' := mW o ad T σ) Z Mz9 (cm_isBillet l D T o ad (σ) (nI (i))) (cwV 1 hts gX6_balances_X6_isBillet rfl rfl rfl (by decide +kernel) ⟨by decide, by decide⟩) (va_recv Z.2.1 Mz9.1 (ci := 7) (q0 := 0) rfl rfl) rfl hl9.1 (Nat.le_of_ble_eq_true rfl) dX6_balances_3 ⟨by decide, by decide⟩ rfl (fun Hp9 lc9 Mz9 => ?_)
  refine zn_top (y := 1) (h1) ?_
  refine lv_iconst (v := 1) hx hb dX6_balances_6 (by decide) ?_
  refine lv_iconst (v := 1) hx hb dX6_balances_7 (by decide) ?_
  refine z_callAi (As := [.int 1, .int 1, .int 1]) (rest := []) (rv := if gth (1) (1) (1) = 0 then 1 else 0) (wc' := mW o ad T (upS σ 31 (fun _ => 0))) Z Mz9 (cm_goes l D T o ad (σ) (1) (1) (1)) (cwV 3 hts gX6_balances_X6_goes rfl rfl rfl (by decide +kernel) ⟨by decide, by decide⟩) (va_recv Z.2.1 Mz9.1 (ci := 7) (q0 := 0) rfl rfl) rfl hl9.1 (Nat.le_of_ble_eq_true rfl) dX6_balances_8 ⟨by decide, by decide⟩ rfl (fun Hp9 lc9 Mz9 => ?_)
  refine zn_top (y := 1) (by decide) ?_
  refine lv_if_eq (tgt := 39) hx hb dX6_balances_11 (by decide) (fun h => absurd h (by decide)) (fun _ => ?_)
  refine lv_aload_n hx hb dX6_balances_14 rfl (lv_at hl9 0 rfl) ?_
  refine lv_iload_n hx hb dX6_balances_15 rfl (lv_at hl9 1 rfl) ?_
  refine z_callAi (As := [.int (nI (i))]) (rest := []) (rv := VO (σ 7) (8 * i)) (wc' := mW o ad T (upS σ 31 (fun _ => 0))) Z Mz9 (cm_volume l D T o ad (upS σ 31 (fun _ => 0)) (i) (by omega)) (cwV 1 hts gX6_balances_X6_volume rfl rfl rfl (by decide +kernel) ⟨by decide, by decide⟩) (va_recv Z.2.1 Mz9.1 (ci := 7) (q0 := 0) rfl rfl) rfl hl9.1 (Nat.le_of_ble_eq_true rfl) dX6_balances_16 ⟨by decide, by decide⟩ rfl (fun Hp9 lc9 Mz9 => ?_)
  refine lv_aload_n hx hb dX6_balances_19 rfl (lv_at hl9 0 rfl) ?_
  refine z_getf Z Mz9 hin6 0 rfl rfl 19 (by decide) L62 rfl (v := .ref (ad 19)) rfl dX6_balances_20 ?_
  refine lv_iload_n hx hb dX6_balances_23 rfl (lv_at hl9 1 rfl) ?_
  refine z_iald Z Mz9 18 (h0 := ad 19) (n := 12) (f := σ 19) rfl (j := i) (by omega) (by decide) dX6_balances_24 ?_
  refine lv_aload_n hx hb dX6_balances_25 rfl (lv_at hl9 0 rfl) ?_
  refine z_getf Z Mz9 hin6 0 rfl rfl 20 (by decide) L65 rfl (v := .ref (ad 20)) rfl dX6_balances_26 ?_
  refine lv_iload_n hx hb dX6_balances_29 rfl (lv_at hl9 1 rfl) ?_
  refine z_iald Z Mz9 19 (h0 := ad 20) (n := 12) (f := σ 20) rfl (j := i) (by omega) (by decide) dX6_balances_30 ?_
  refine lv_isub hx hb dX6_balances_31 ?_
  refine lv_icmp_ne (tgt := 39) hx hb dX6_balances_32 (by decide) (fun c_1 => ?_) (fun c_1 => ?_)
  ·
    refine lv_iconst (v := 0) hx hb dX6_balances_39 (by decide) ?_
    exact hret _ _ _ _ _ sl9 _ _ Mz9 (rfl) (by simp only [if_neg c_1]) (rfl) (Nat.le_refl _) (Nat.le_refl _) dX6_balances_40
  ·
    refine lv_iconst (v := 1) hx hb dX6_balances_35 (by decide) ?_
    refine lv_goto (tgt := 40) hx hb dX6_balances_36 (by decide) ?_
    exact hret _ _ _ _ _ sl9 _ _ Mz9 (rfl) (by simp only [if_pos c_1]) (rfl) (Nat.le_refl _) (Nat.le_refl _) dX6_balances_40
set_option maxHeartbeats 4000000 in
set_option maxRecDepth 100000 in
theorem cm_cut_bad (l : Launch) (D : va_G) (T : Nat → ClassId) (o : Nat) (ad : Nat → Nat) (σ : Nat → Nat → Int32) (b t mu : Int32) (hg : ¬ gth (if bin (b) 0 (σ 5 0 - 1) = 0 then 0 else if bin (t) 0 7 = 0 then 0 else 1) (bin (mu) (1) (200)) (1) = 0) : ZI l yX6_cut wsX6_cut (zrm 2 43) D T (mW o ad T σ) (mW o ad T (upS σ 31 (fun _ => gth (if bin (b) 0 (σ 5 0 - 1) = 0 then 0 else if bin (t) 0 7 = 0 then 0 else 1) (bin (mu) (1) (200)) (1)))) [.ref o, .int (b), .int (t), .int (mu)] (0) 0 0 := by
  refine z_inI (cc := cX6_cut) (maxL := 7) (rt := .int) (by decide +kernel) rfl (Nat.le_of_ble_eq_true rfl) ?_
  intro p e s m args below meth c sl9 A Q Z hnm Mz9 hl9 hret
  have Z : zC p s m args c cX6_cut 7 RX6 wsX6_cut D T A := Z
  have hx := Z.1.1
  have hb := Z.1.2.1
  have hts := Z.1.2.2.2.2
  have hin6 : ∀ w ∈ wsX60, w ∈ wsX6_cut := fun w h => List.mem_cons_of_mem _ (List.mem_append_right _ h)
  have hH0 : s.heap = s.heap := rfl
  have L25 := hts (.fieldLink RX6 25 "AnvilHouseModel" "areas" "[I") (by decide +kernel)
  have L65 := hts (.fieldLink RX6 65 "AnvilHouseModel" "lost" "[I") (by decide +kernel)
  have hl9 : lv_has sl9 7 [(0, .ref o), (1, .int (b)), (2, .int (t)), (3, .int (mu))] := hl9
  refine lv_aload_n hx hb dX6_cut_0 rfl (lv_at hl9 0 rfl) ?_
  refine lv_iload_n hx hb dX6_cut_1 rfl (lv_at hl9 1 rfl) ?_
  refine z_callAi (As := [.int (b)]) (rest := []) (rv := bin (b) 0 (σ 5 0 - 1)) (wc' := mW o ad T σ) Z Mz9 (cm_isBillet l D T o ad (σ) (b)) (cwV 1 hts gX6_cut_X6_isBillet rfl rfl rfl (by decide +kernel) ⟨by decide, by decide⟩) (va_recv Z.2.1 Mz9.1 (ci := 7) (q0 := 0) rfl rfl) rfl hl9.1 (Nat.le_of_ble_eq_true rfl) dX6_cut_2 ⟨by decide, by decide⟩ rfl (fun Hp9 lc9 Mz9 => ?_)
  refine lv_if_eq (tgt := 19) hx hb dX6_cut_5 (by decide) (fun c_1 => ?_) (fun c_1 => ?_)
  ·
    refine lv_iconst (v := 0) hx hb dX6_cut_19 (by decide) ?_
    refine lv_istore (lv' := [(4, .int 0), (0, .ref o), (1, .int (b)), (2, .int (t)), (3, .int (mu))]) hx hb dX6_cut_20 hl9 (by decide) rfl (fun sl9 hl9 => ?_)
    refine lv_aload_n hx hb dX6_cut_22 rfl (lv_at hl9 1 rfl) ?_
    refine lv_iload hx hb dX6_cut_23 (lv_at hl9 0 rfl) ?_
    refine lv_iload_n hx hb dX6_cut_25 rfl (lv_at hl9 4 rfl) ?_
    refine lv_iconst (v := 1) hx hb dX6_cut_26 (by decide) ?_
    refine lv_sipush (v := 200) hx hb dX6_cut_27 (by decide) ?_
    refine z_callSi (As := [.int (mu), .int 1, .int 200]) (rest := [.int 0, .ref o]) Z.1 (cm_in l (mu) (1) (200)) (va_cwS 3 hts gX6_cut_X6_in rfl rfl rfl (by decide +kernel) ⟨by decide, by decide⟩) rfl hl9.1 (Nat.le_of_ble_eq_true rfl) dX6_cut_30 ⟨by decide, by decide⟩ rfl ?_
    refine lv_iconst (v := 1) hx hb dX6_cut_33 (by decide) ?_
    refine z_callAi (As := [.int 0, .int (bin (mu) (1) (200)), .int 1]) (rest := []) (rv := if gth (0) (bin (mu) (1) (200)) (1) = 0 then 1 else 0) (wc' := mW o ad T (upS σ 31 (fun _ => gth (0) (bin (mu) (1) (200)) (1)))) Z Mz9 (cm_goes l D T o ad (σ) (0) (bin (mu) (1) (200)) (1)) (cwV 3 hts gX6_cut_X6_goes rfl rfl rfl (by decide +kernel) ⟨by decide, by decide⟩) (va_recv Z.2.1 Mz9.1 (ci := 7) (q0 := 0) rfl rfl) rfl hl9.1 (Nat.le_of_ble_eq_true rfl) dX6_cut_34 ⟨by decide, by decide⟩ rfl (fun Hp9 lc9 Mz9 => ?_)
    refine zn_top (y := 0) (by have h := hg; simp only [if_pos c_1] at h; exact if_neg h) ?_
    refine lv_if_ne (tgt := 42) hx hb dX6_cut_37 (by decide) (fun h => absurd h (by decide)) (fun _ => ?_)
    refine lv_iconst (v := 0) hx hb dX6_cut_40 (by decide) ?_
    exact hret _ _ _ _ _ sl9 _ _ Mz9 (by simp only [if_pos c_1] <;> rfl) (rfl) (rfl) (Nat.le_refl _) (Nat.le_refl _) dX6_cut_41
  ·
    refine lv_iload_n hx hb dX6_cut_8 rfl (lv_at hl9 2 rfl) ?_
    refine z_callSi (As := [.int (t)]) (rest := []) Z.1 (cm_isSection l (t)) (va_cwS 1 hts gX6_cut_X6_isSection rfl rfl rfl (by decide +kernel) ⟨by decide, by decide⟩) rfl hl9.1 (Nat.le_of_ble_eq_true rfl) dX6_cut_9 ⟨by decide, by decide⟩ rfl ?_
    refine lv_if_eq (tgt := 19) hx hb dX6_cut_12 (by decide) (fun c_2 => ?_) (fun c_2 => ?_)
    ·
      refine lv_iconst (v := 0) hx hb dX6_cut_19 (by decide) ?_
      refine lv_istore (lv' := [(4, .int 0), (0, .ref o), (1, .int (b)), (2, .int (t)), (3, .int (mu))]) hx hb dX6_cut_20 hl9 (by decide) rfl (fun sl9 hl9 => ?_)
      refine lv_aload_n hx hb dX6_cut_22 rfl (lv_at hl9 1 rfl) ?_
      refine lv_iload hx hb dX6_cut_23 (lv_at hl9 0 rfl) ?_
      refine lv_iload_n hx hb dX6_cut_25 rfl (lv_at hl9 4 rfl) ?_
      refine lv_iconst (v := 1) hx hb dX6_cut_26 (by decide) ?_
      refine lv_sipush (v := 200) hx hb dX6_cut_27 (by decide) ?_
      refine z_callSi (As := [.int (mu), .int 1, .int 200]) (rest := [.int 0, .ref o]) Z.1 (cm_in l (mu) (1) (200)) (va_cwS 3 hts gX6_cut_X6_in rfl rfl rfl (by decide +kernel) ⟨by decide, by decide⟩) rfl hl9.1 (Nat.le_of_ble_eq_true rfl) dX6_cut_30 ⟨by decide, by decide⟩ rfl ?_
      refine lv_iconst (v := 1) hx hb dX6_cut_33 (by decide) ?_
      refine z_callAi (As := [.int 0, .int (bin (mu) (1) (200)), .int 1]) (rest := []) (rv := if gth (0) (bin (mu) (1) (200)) (1) = 0 then 1 else 0) (wc' := mW o ad T (upS σ 31 (fun _ => gth (0) (bin (mu) (1) (200)) (1)))) Z Mz9 (cm_goes l D T o ad (σ) (0) (bin (mu) (1) (200)) (1)) (cwV 3 hts gX6_cut_X6_goes rfl rfl rfl (by decide +kernel) ⟨by decide, by decide⟩) (va_recv Z.2.1 Mz9.1 (ci := 7) (q0 := 0) rfl rfl) rfl hl9.1 (Nat.le_of_ble_eq_true rfl) dX6_cut_34 ⟨by decide, by decide⟩ rfl (fun Hp9 lc9 Mz9 => ?_)
      refine zn_top (y := 0) (by have h := hg; simp only [if_neg c_1, if_pos c_2] at h; exact if_neg h) ?_
      refine lv_if_ne (tgt := 42) hx hb dX6_cut_37 (by decide) (fun h => absurd h (by decide)) (fun _ => ?_)
      refine lv_iconst (v := 0) hx hb dX6_cut_40 (by decide) ?_
      exact hret _ _ _ _ _ sl9 _ _ Mz9 (by simp only [if_neg c_1, if_pos c_2] <;> rfl) (rfl) (rfl) (Nat.le_refl _) (Nat.le_refl _) dX6_cut_41
    ·
      refine lv_iconst (v := 1) hx hb dX6_cut_15 (by decide) ?_
      refine lv_goto (tgt := 20) hx hb dX6_cut_16 (by decide) ?_
      refine lv_istore (lv' := [(4, .int 1), (0, .ref o), (1, .int (b)), (2, .int (t)), (3, .int (mu))]) hx hb dX6_cut_20 hl9 (by decide) rfl (fun sl9 hl9 => ?_)
      refine lv_aload_n hx hb dX6_cut_22 rfl (lv_at hl9 1 rfl) ?_
      refine lv_iload hx hb dX6_cut_23 (lv_at hl9 0 rfl) ?_
      refine lv_iload_n hx hb dX6_cut_25 rfl (lv_at hl9 4 rfl) ?_
      refine lv_iconst (v := 1) hx hb dX6_cut_26 (by decide) ?_
      refine lv_sipush (v := 200) hx hb dX6_cut_27 (by decide) ?_
      refine z_callSi (As := [.int (mu), .int 1, .int 200]) (rest := [.int 1, .ref o]) Z.1 (cm_in l (mu) (1) (200)) (va_cwS 3 hts gX6_cut_X6_in rfl rfl rfl (by decide +kernel) ⟨by decide, by decide⟩) rfl hl9.1 (Nat.le_of_ble_eq_true rfl) dX6_cut_30 ⟨by decide, by decide⟩ rfl ?_
      refine lv_iconst (v := 1) hx hb dX6_cut_33 (by decide) ?_
      refine z_callAi (As := [.int 1, .int (bin (mu) (1) (200)), .int 1]) (rest := []) (rv := if gth (1) (bin (mu) (1) (200)) (1) = 0 then 1 else 0) (wc' := mW o ad T (upS σ 31 (fun _ => gth (1) (bin (mu) (1) (200)) (1)))) Z Mz9 (cm_goes l D T o ad (σ) (1) (bin (mu) (1) (200)) (1)) (cwV 3 hts gX6_cut_X6_goes rfl rfl rfl (by decide +kernel) ⟨by decide, by decide⟩) (va_recv Z.2.1 Mz9.1 (ci := 7) (q0 := 0) rfl rfl) rfl hl9.1 (Nat.le_of_ble_eq_true rfl) dX6_cut_34 ⟨by decide, by decide⟩ rfl (fun Hp9 lc9 Mz9 => ?_)
      refine zn_top (y := 0) (by have h := hg; simp only [if_neg c_1, if_neg c_2] at h; exact if_neg h) ?_
      refine lv_if_ne (tgt := 42) hx hb dX6_cut_37 (by decide) (fun h => absurd h (by decide)) (fun _ => ?_)
      refine lv_iconst (v := 0) hx hb dX6_cut_40 (by decide) ?_
      exact hret _ _ _ _ _ sl9 _ _ Mz9 (by simp only [if_neg c_1, if_neg c_2] <;> rfl) (rfl) (rfl) (Nat.le_refl _) (Nat.le_refl _) dX6_cut_41
set_option maxHeartbeats 4000000 in
set_option maxRecDepth 100000 in
theorem cm_cut_ok (l : Launch) (D : va_G) (T : Nat → ClassId) (o : Nat) (ad : Nat → Nat) (σ : Nat → Nat → Int32) (i j : Nat) (mu : Int32) (hi : i < 12) (hj : j < 8) (h1 : bin (nI i) 0 (σ 5 0 - 1) = 1) (h2 : bin (nI j) 0 7 = 1) (h3 : bin mu 1 200 = 1) : ZI l yX6_cut wsX6_cut (zrm 2 43) D T (mW o ad T σ) (mW o ad T (upS (upS (upS σ 7 (upd (σ 7) (8 * i + j) (σ 7 (8 * i + j) - imin mu (σ 7 (8 * i + j) - 1)))) 20 (upd (σ 20) i (σ 20 i + imin mu (σ 7 (8 * i + j) - 1)))) 31 (fun _ => 0))) [.ref o, .int (nI (i)), .int (nI (j)), .int (mu)] (imin mu (σ 7 (8 * i + j) - 1)) 0 0 := by
  refine z_inI (cc := cX6_cut) (maxL := 7) (rt := .int) (by decide +kernel) rfl (Nat.le_of_ble_eq_true rfl) ?_
  intro p e s m args below meth c sl9 A Q Z hnm Mz9 hl9 hret
  have Z : zC p s m args c cX6_cut 7 RX6 wsX6_cut D T A := Z
  have hx := Z.1.1
  have hb := Z.1.2.1
  have hts := Z.1.2.2.2.2
  have hin6 : ∀ w ∈ wsX60, w ∈ wsX6_cut := fun w h => List.mem_cons_of_mem _ (List.mem_append_right _ h)
  have hH0 : s.heap = s.heap := rfl
  have L25 := hts (.fieldLink RX6 25 "AnvilHouseModel" "areas" "[I") (by decide +kernel)
  have L65 := hts (.fieldLink RX6 65 "AnvilHouseModel" "lost" "[I") (by decide +kernel)
  have hl9 : lv_has sl9 7 [(0, .ref o), (1, .int (nI (i))), (2, .int (nI (j))), (3, .int (mu))] := hl9
  refine lv_aload_n hx hb dX6_cut_0 rfl (lv_at hl9 0 rfl) ?_
  refine lv_iload_n hx hb dX6_cut_1 rfl (lv_at hl9 1 rfl) ?_
  refine z_callAi (As := [.int (nI (i))]) (rest := []) (rv := bin (nI (i)) 0 (σ 5 0 - 1)) (wc' := mW o ad T σ) Z Mz9 (cm_isBillet l D T o ad (σ) (nI (i))) (cwV 1 hts gX6_cut_X6_isBillet rfl rfl rfl (by decide +kernel) ⟨by decide, by decide⟩) (va_recv Z.2.1 Mz9.1 (ci := 7) (q0 := 0) rfl rfl) rfl hl9.1 (Nat.le_of_ble_eq_true rfl) dX6_cut_2 ⟨by decide, by decide⟩ rfl (fun Hp9 lc9 Mz9 => ?_)
  refine zn_top (y := 1) (h1) ?_
  refine lv_if_eq (tgt := 19) hx hb dX6_cut_5 (by decide) (fun h => absurd h (by decide)) (fun _ => ?_)
  refine lv_iload_n hx hb dX6_cut_8 rfl (lv_at hl9 2 rfl) ?_
  refine z_callSi (As := [.int (nI (j))]) (rest := []) Z.1 (cm_isSection l (nI (j))) (va_cwS 1 hts gX6_cut_X6_isSection rfl rfl rfl (by decide +kernel) ⟨by decide, by decide⟩) rfl hl9.1 (Nat.le_of_ble_eq_true rfl) dX6_cut_9 ⟨by decide, by decide⟩ rfl ?_
  refine zn_top (y := 1) (h2) ?_
  refine lv_if_eq (tgt := 19) hx hb dX6_cut_12 (by decide) (fun h => absurd h (by decide)) (fun _ => ?_)
  refine lv_iconst (v := 1) hx hb dX6_cut_15 (by decide) ?_
  refine lv_goto (tgt := 20) hx hb dX6_cut_16 (by decide) ?_
  refine lv_istore (lv' := [(4, .int 1), (0, .ref o), (1, .int (nI (i))), (2, .int (nI (j))), (3, .int (mu))]) hx hb dX6_cut_20 hl9 (by decide) rfl (fun sl9 hl9 => ?_)
  refine lv_aload_n hx hb dX6_cut_22 rfl (lv_at hl9 1 rfl) ?_
  refine lv_iload hx hb dX6_cut_23 (lv_at hl9 0 rfl) ?_
  refine lv_iload_n hx hb dX6_cut_25 rfl (lv_at hl9 4 rfl) ?_
  refine lv_iconst (v := 1) hx hb dX6_cut_26 (by decide) ?_
  refine lv_sipush (v := 200) hx hb dX6_cut_27 (by decide) ?_
  refine z_callSi (As := [.int (mu), .int 1, .int 200]) (rest := [.int 1, .ref o]) Z.1 (cm_in l (mu) (1) (200)) (va_cwS 3 hts gX6_cut_X6_in rfl rfl rfl (by decide +kernel) ⟨by decide, by decide⟩) rfl hl9.1 (Nat.le_of_ble_eq_true rfl) dX6_cut_30 ⟨by decide, by decide⟩ rfl ?_
  refine zn_top (y := 1) (h3) ?_
  refine lv_iconst (v := 1) hx hb dX6_cut_33 (by decide) ?_
  refine z_callAi (As := [.int 1, .int 1, .int 1]) (rest := []) (rv := if gth (1) (1) (1) = 0 then 1 else 0) (wc' := mW o ad T (upS σ 31 (fun _ => 0))) Z Mz9 (cm_goes l D T o ad (σ) (1) (1) (1)) (cwV 3 hts gX6_cut_X6_goes rfl rfl rfl (by decide +kernel) ⟨by decide, by decide⟩) (va_recv Z.2.1 Mz9.1 (ci := 7) (q0 := 0) rfl rfl) rfl hl9.1 (Nat.le_of_ble_eq_true rfl) dX6_cut_34 ⟨by decide, by decide⟩ rfl (fun Hp9 lc9 Mz9 => ?_)
  refine zn_top (y := 1) (by decide) ?_
  refine lv_if_ne (tgt := 42) hx hb dX6_cut_37 (by decide) (fun _ => ?_) (fun h => absurd h (by decide))
  refine lv_bipush (v := 8) hx hb dX6_cut_42 (by decide) ?_
  refine lv_iload_n hx hb dX6_cut_44 rfl (lv_at hl9 2 rfl) ?_
  refine zn_imul (a := 8) (b := i) hx hb dX6_cut_45 ?_
  refine lv_iload_n hx hb dX6_cut_46 rfl (lv_at hl9 3 rfl) ?_
  refine zn_iadd (a := 8 * i) (b := j) hx hb dX6_cut_47 ?_
  refine lv_istore (lv' := [(5, .int (nI ((8 * i) + j))), (4, .int 1), (0, .ref o), (1, .int (nI (i))), (2, .int (nI (j))), (3, .int (mu))]) hx hb dX6_cut_48 hl9 (by decide) rfl (fun sl9 hl9 => ?_)
  refine lv_iload_n hx hb dX6_cut_50 rfl (lv_at hl9 5 rfl) ?_
  refine lv_aload_n hx hb dX6_cut_51 rfl (lv_at hl9 2 rfl) ?_
  refine z_getf Z Mz9 hin6 0 rfl rfl 7 (by decide) L25 rfl (v := .ref (ad 7)) rfl dX6_cut_52 ?_
  refine lv_iload hx hb dX6_cut_55 (lv_at hl9 0 rfl) ?_
  refine z_iald Z Mz9 6 (h0 := ad 7) (n := 96) (f := σ 7) rfl (j := (8 * i) + j) (by omega) (by decide) dX6_cut_57 ?_
  refine lv_iconst (v := 1) hx hb dX6_cut_58 (by decide) ?_
  refine lv_isub hx hb dX6_cut_59 ?_
  refine z_callSi (As := [.int (mu), .int (((σ 7) ((8 * i) + j)) - 1)]) (rest := []) Z.1 (cm_least l (mu) (((σ 7) ((8 * i) + j)) - 1)) (va_cwS 2 hts gX6_cut_X6_least rfl rfl rfl (by decide +kernel) ⟨by decide, by decide⟩) rfl hl9.1 (Nat.le_of_ble_eq_true rfl) dX6_cut_60 ⟨by decide, by decide⟩ rfl ?_
  refine lv_istore (lv' := [(6, .int (imin (mu) (((σ 7) ((8 * i) + j)) - 1))), (5, .int (nI ((8 * i) + j))), (4, .int 1), (0, .ref o), (1, .int (nI (i))), (2, .int (nI (j))), (3, .int (mu))]) hx hb dX6_cut_63 hl9 (by decide) rfl (fun sl9 hl9 => ?_)
  refine lv_aload_n hx hb dX6_cut_65 rfl (lv_at hl9 3 rfl) ?_
  refine z_getf Z Mz9 hin6 0 rfl rfl 7 (by decide) L25 rfl (v := .ref (ad 7)) rfl dX6_cut_66 ?_
  refine lv_iload hx hb dX6_cut_69 (lv_at hl9 1 rfl) ?_
  refine lv_dup2_11 hx hb dX6_cut_71 rfl rfl ?_
  refine z_iald Z Mz9 6 (h0 := ad 7) (n := 96) (f := σ 7) rfl (j := (8 * i) + j) (by omega) (by decide) dX6_cut_72 ?_
  refine lv_iload hx hb dX6_cut_73 (lv_at hl9 0 rfl) ?_
  refine lv_isub hx hb dX6_cut_75 ?_
  refine z_iast Z Mz9 6 (h0 := ad 7) (n := 96) (f := σ 7) rfl (j := (8 * i) + j) (x := ((σ 7) ((8 * i) + j)) - (imin (mu) (((σ 7) ((8 * i) + j)) - 1))) (by omega) (by decide) (ws' := mW o ad T (upS (upS σ 7 (upd (σ 7) ((8 * i) + j) (((σ 7) ((8 * i) + j)) - (imin (mu) (((σ 7) ((8 * i) + j)) - 1))))) 31 (fun _ => 0))) rfl dX6_cut_76 (fun Hp9 lc9 Mz9 => ?_)
  refine lv_aload_n hx hb dX6_cut_77 rfl (lv_at hl9 3 rfl) ?_
  refine z_getf Z Mz9 hin6 0 rfl rfl 20 (by decide) L65 rfl (v := .ref (ad 20)) rfl dX6_cut_78 ?_
  refine lv_iload_n hx hb dX6_cut_81 rfl (lv_at hl9 4 rfl) ?_
  refine lv_dup2_11 hx hb dX6_cut_82 rfl rfl ?_
  refine z_iald Z Mz9 19 (h0 := ad 20) (n := 12) (f := σ 20) rfl (j := i) (by omega) (by decide) dX6_cut_83 ?_
  refine lv_iload hx hb dX6_cut_84 (lv_at hl9 0 rfl) ?_
  refine lv_iadd hx hb dX6_cut_86 ?_
  refine z_iast Z Mz9 19 (h0 := ad 20) (n := 12) (f := σ 20) rfl (j := i) (x := ((σ 20) i) + (imin (mu) (((σ 7) ((8 * i) + j)) - 1))) (by omega) (by decide) (ws' := mW o ad T (upS (upS (upS σ 7 (upd (σ 7) ((8 * i) + j) (((σ 7) ((8 * i) + j)) - (imin (mu) (((σ 7) ((8 * i) + j)) - 1))))) 20 (upd (σ 20) i (((σ 20) i) + (imin (mu) (((σ 7) ((8 * i) + j)) - 1))))) 31 (fun _ => 0))) rfl dX6_cut_87 (fun Hp9 lc9 Mz9 => ?_)
  refine lv_iload hx hb dX6_cut_88 (lv_at hl9 0 rfl) ?_
  exact hret _ _ _ _ _ sl9 _ _ Mz9 (rfl) (rfl) (rfl) (Nat.le_refl _) (Nat.le_refl _) dX6_cut_90
set_option maxHeartbeats 4000000 in
set_option maxRecDepth 100000 in
theorem cm_die_bad (l : Launch) (D : va_G) (T : Nat → ClassId) (o : Nat) (ad : Nat → Nat) (σ : Nat → Nat → Int32)  (hg : ¬ gth (if σ 21 0 < 4 then 1 else 0) (1) (1) = 0) : ZI l yX6_die wsX6_die (zrm 1 23) D T (mW o ad T σ) (mW o ad T (upS σ 31 (fun _ => gth (if σ 21 0 < 4 then 1 else 0) (1) (1)))) [.ref o] (0) 0 0 := by
  refine z_inI (cc := cX6_die) (maxL := 2) (rt := .int) (by decide +kernel) rfl (Nat.le_of_ble_eq_true rfl) ?_
  intro p e s m args below meth c sl9 A Q Z hnm Mz9 hl9 hret
  have Z : zC p s m args c cX6_die 2 RX6 wsX6_die D T A := Z
  have hx := Z.1.1
  have hb := Z.1.2.1
  have hts := Z.1.2.2.2.2
  have hin6 : ∀ w ∈ wsX60, w ∈ wsX6_die := fun w h => List.mem_cons_of_mem _ (List.mem_append_right _ h)
  have hH0 : s.heap = s.heap := rfl
  have L100 := hts (.fieldLink RX6 100 "AnvilHouseModel" "dies" "I") (by decide +kernel)
  have L68 := hts (.fieldLink RX6 68 "AnvilHouseModel" "shapes" "[I") (by decide +kernel)
  have L71 := hts (.fieldLink RX6 71 "AnvilHouseModel" "life" "[I") (by decide +kernel)
  have hl9 : lv_has sl9 2 [(0, .ref o)] := hl9
  refine lv_aload_n hx hb dX6_die_0 rfl (lv_at hl9 0 rfl) ?_
  refine lv_aload_n hx hb dX6_die_1 rfl (lv_at hl9 0 rfl) ?_
  refine z_getf Z Mz9 hin6 0 rfl rfl 21 (by decide) L100 rfl (v := .int (σ 21 0)) rfl dX6_die_2 ?_
  refine lv_iconst (v := 4) hx hb dX6_die_5 (by decide) ?_
  refine lv_icmp_ge (tgt := 13) hx hb dX6_die_6 (by decide) (fun c_1 => ?_) (fun c_1 => ?_)
  ·
    refine lv_iconst (v := 0) hx hb dX6_die_13 (by decide) ?_
    refine lv_iconst (v := 1) hx hb dX6_die_14 (by decide) ?_
    refine lv_iconst (v := 1) hx hb dX6_die_15 (by decide) ?_
    refine z_callAi (As := [.int 0, .int 1, .int 1]) (rest := []) (rv := if gth (0) (1) (1) = 0 then 1 else 0) (wc' := mW o ad T (upS σ 31 (fun _ => gth (0) (1) (1)))) Z Mz9 (cm_goes l D T o ad (σ) (0) (1) (1)) (cwV 3 hts gX6_die_X6_goes rfl rfl rfl (by decide +kernel) ⟨by decide, by decide⟩) (va_recv Z.2.1 Mz9.1 (ci := 7) (q0 := 0) rfl rfl) rfl hl9.1 (Nat.le_of_ble_eq_true rfl) dX6_die_16 ⟨by decide, by decide⟩ rfl (fun Hp9 lc9 Mz9 => ?_)
    refine zn_top (y := 0) (by have h := hg; simp only [if_neg (Int32.not_lt.mpr c_1)] at h; exact if_neg h) ?_
    refine lv_if_ne (tgt := 24) hx hb dX6_die_19 (by decide) (fun h => absurd h (by decide)) (fun _ => ?_)
    refine lv_iconst (v := 0) hx hb dX6_die_22 (by decide) ?_
    exact hret _ _ _ _ _ sl9 _ _ Mz9 (by simp only [if_neg (Int32.not_lt.mpr c_1)] <;> rfl) (rfl) (rfl) (Nat.le_refl _) (Nat.le_refl _) dX6_die_23
  ·
    refine lv_iconst (v := 1) hx hb dX6_die_9 (by decide) ?_
    refine lv_goto (tgt := 14) hx hb dX6_die_10 (by decide) ?_
    refine lv_iconst (v := 1) hx hb dX6_die_14 (by decide) ?_
    refine lv_iconst (v := 1) hx hb dX6_die_15 (by decide) ?_
    refine z_callAi (As := [.int 1, .int 1, .int 1]) (rest := []) (rv := if gth (1) (1) (1) = 0 then 1 else 0) (wc' := mW o ad T (upS σ 31 (fun _ => 0))) Z Mz9 (cm_goes l D T o ad (σ) (1) (1) (1)) (cwV 3 hts gX6_die_X6_goes rfl rfl rfl (by decide +kernel) ⟨by decide, by decide⟩) (va_recv Z.2.1 Mz9.1 (ci := 7) (q0 := 0) rfl rfl) rfl hl9.1 (Nat.le_of_ble_eq_true rfl) dX6_die_16 ⟨by decide, by decide⟩ rfl (fun Hp9 lc9 Mz9 => ?_)
    refine zn_top (y := 0) (by have h := hg; simp only [if_pos (Int32.not_le.mp c_1)] at h; exact if_neg h) ?_
    refine lv_if_ne (tgt := 24) hx hb dX6_die_19 (by decide) (fun h => absurd h (by decide)) (fun _ => ?_)
    refine lv_iconst (v := 0) hx hb dX6_die_22 (by decide) ?_
    exact hret _ _ _ _ _ sl9 _ _ Mz9 (by simp only [if_pos (Int32.not_le.mp c_1)] <;> rfl) (rfl) (rfl) (Nat.le_refl _) (Nat.le_refl _) dX6_die_23
set_option maxHeartbeats 4000000 in
set_option maxRecDepth 100000 in
theorem cm_die_ok (l : Launch) (D : va_G) (T : Nat → ClassId) (o : Nat) (ad : Nat → Nat) (σ : Nat → Nat → Int32) (nd : Nat) (hnd : nd < 4) (h21 : σ 21 0 = nI nd) : ZI l yX6_die wsX6_die (zrm 1 23) D T (mW o ad T σ) (mW o ad T (upS (upS (upS (upS σ 21 (fun _ => nI (nd + 1))) 22 (FI (σ 22) (8 * nd) 10)) 23 (upd (σ 23) nd 100)) 31 (fun _ => 0))) [.ref o] (nI nd) 0 0 := by
  simp only [FI_eq]
  refine z_inI (cc := cX6_die) (maxL := 2) (rt := .int) (by decide +kernel) rfl (Nat.le_of_ble_eq_true rfl) ?_
  intro p e s m args below meth c sl9 A Q Z hnm Mz9 hl9 hret
  have Z : zC p s m args c cX6_die 2 RX6 wsX6_die D T A := Z
  have hx := Z.1.1
  have hb := Z.1.2.1
  have hts := Z.1.2.2.2.2
  have hin6 : ∀ w ∈ wsX60, w ∈ wsX6_die := fun w h => List.mem_cons_of_mem _ (List.mem_append_right _ h)
  have hH0 : s.heap = s.heap := rfl
  have L100 := hts (.fieldLink RX6 100 "AnvilHouseModel" "dies" "I") (by decide +kernel)
  have L68 := hts (.fieldLink RX6 68 "AnvilHouseModel" "shapes" "[I") (by decide +kernel)
  have L71 := hts (.fieldLink RX6 71 "AnvilHouseModel" "life" "[I") (by decide +kernel)
  have hl9 : lv_has sl9 2 [(0, .ref o)] := hl9
  refine lv_aload_n hx hb dX6_die_0 rfl (lv_at hl9 0 rfl) ?_
  refine lv_aload_n hx hb dX6_die_1 rfl (lv_at hl9 0 rfl) ?_
  refine z_getf Z Mz9 hin6 0 rfl rfl 21 (by decide) L100 rfl (v := .int (σ 21 0)) rfl dX6_die_2 ?_
  refine zn_top (y := nI (nd)) (h21) ?_
  refine lv_iconst (v := 4) hx hb dX6_die_5 (by decide) ?_
  refine zn_icmp_ge (a := nd) (b := 4) (tgt := 13) (by omega) (by decide) hx hb dX6_die_6 (by decide) (fun h => absurd h (by omega)) (fun _ => ?_)
  refine lv_iconst (v := 1) hx hb dX6_die_9 (by decide) ?_
  refine lv_goto (tgt := 14) hx hb dX6_die_10 (by decide) ?_
  refine lv_iconst (v := 1) hx hb dX6_die_14 (by decide) ?_
  refine lv_iconst (v := 1) hx hb dX6_die_15 (by decide) ?_
  refine z_callAi (As := [.int 1, .int 1, .int 1]) (rest := []) (rv := if gth (1) (1) (1) = 0 then 1 else 0) (wc' := mW o ad T (upS σ 31 (fun _ => 0))) Z Mz9 (cm_goes l D T o ad (σ) (1) (1) (1)) (cwV 3 hts gX6_die_X6_goes rfl rfl rfl (by decide +kernel) ⟨by decide, by decide⟩) (va_recv Z.2.1 Mz9.1 (ci := 7) (q0 := 0) rfl rfl) rfl hl9.1 (Nat.le_of_ble_eq_true rfl) dX6_die_16 ⟨by decide, by decide⟩ rfl (fun Hp9 lc9 Mz9 => ?_)
  refine zn_top (y := 1) (by decide) ?_
  refine lv_if_ne (tgt := 24) hx hb dX6_die_19 (by decide) (fun _ => ?_) (fun h => absurd h (by decide))
  refine lv_iconst (v := 0) hx hb dX6_die_24 (by decide) ?_
  refine lv_istore_n (lv' := [(1, .int 0), (0, .ref o)]) hx hb dX6_die_25 rfl hl9 (by decide) rfl (fun sl9 hl9 => ?_)
  have LP26_1 : ∀ (n26 k : Nat), k + n26 = 8 → ∀ (Hp9 : Heap) (lc9 : List Loc) (sl9 : Array Slot), zM D A s.heap (mW o ad T (upS (upS σ 22 (fil (σ 22) (8 * nd) 10 (k))) 31 (fun _ => 0))) Hp9 lc9 → lv_has sl9 2 [(0, .ref o), (1, .int (nI (k)))] → W p l e (zrm 1 23) s m args below meth c Hp9 lc9 0 0 Q (F0 m 26 sl9 []) := by
    intro n26
    induction n26 with
    | zero =>
      intro k hk9 Hp9 lc9 sl9 Mz9 hl9
      obtain rfl : 8 = k := by omega
      refine lv_iload_n hx hb dX6_die_26 rfl (lv_at hl9 1 rfl) ?_
      refine lv_bipush (v := 8) hx hb dX6_die_27 (by decide) ?_
      refine zn_icmp_ge (a := 8) (b := 8) (tgt := 54) (by omega) (by decide) hx hb dX6_die_29 (by decide) (fun _ => ?_) (fun h => absurd h (by omega))
      refine lv_aload_n hx hb dX6_die_54 rfl (lv_at hl9 0 rfl) ?_
      refine z_getf Z Mz9 hin6 0 rfl rfl 23 (by decide) L71 rfl (v := .ref (ad 23)) rfl dX6_die_55 ?_
      refine lv_aload_n hx hb dX6_die_58 rfl (lv_at hl9 0 rfl) ?_
      refine z_getf Z Mz9 hin6 0 rfl rfl 21 (by decide) L100 rfl (v := .int (σ 21 0)) rfl dX6_die_59 ?_
      refine zn_top (y := nI (nd)) (h21) ?_
      refine lv_bipush (v := 100) hx hb dX6_die_62 (by decide) ?_
      refine z_iast Z Mz9 21 (h0 := ad 23) (n := 4) (f := σ 23) rfl (j := nd) (x := 100) (by omega) (by decide) (ws' := mW o ad T (upS (upS (upS σ 22 (fil (σ 22) (8 * nd) 10 (8))) 23 (upd (σ 23) nd 100)) 31 (fun _ => 0))) rfl dX6_die_64 (fun Hp9 lc9 Mz9 => ?_)
      refine lv_aload_n hx hb dX6_die_65 rfl (lv_at hl9 0 rfl) ?_
      refine lv_dup hx hb dX6_die_66 rfl ?_
      refine z_getf Z Mz9 hin6 0 rfl rfl 21 (by decide) L100 rfl (v := .int (σ 21 0)) rfl dX6_die_67 ?_
      refine zn_top (y := nI (nd)) (h21) ?_
      refine lv_iconst (v := 1) hx hb dX6_die_70 (by decide) ?_
      refine zn_iadd (a := nd) (b := 1) hx hb dX6_die_71 ?_
      refine z_putf Z Mz9 hin6 tyX6 tyX6_ok nmX6 0 rfl rfl 21 (by decide) L100 rfl rfl (ty := .int) rfl rfl rfl (Nat.le_of_ble_eq_true rfl) (ws' := mW o ad T (upS (upS (upS (upS σ 21 (fun _ => nI (nd + 1))) 22 (fil (σ 22) (8 * nd) 10 (8))) 23 (upd (σ 23) nd 100)) 31 (fun _ => 0))) rfl dX6_die_72 (fun Hp9 lc9 Mz9 => ?_)
      refine lv_aload_n hx hb dX6_die_75 rfl (lv_at hl9 0 rfl) ?_
      refine z_getf Z Mz9 hin6 0 rfl rfl 21 (by decide) L100 rfl (v := .int (nI (nd + 1))) rfl dX6_die_76 ?_
      refine lv_iconst (v := 1) hx hb dX6_die_79 (by decide) ?_
      refine zn_isub (a := nd + 1) (b := 1) (by omega) hx hb dX6_die_80 ?_
      exact hret _ _ _ _ _ sl9 _ _ Mz9 (rfl) (by rw [Nat.add_sub_cancel]) (rfl) (Nat.le_refl _) (Nat.le_refl _) dX6_die_81
    | succ n26 ih26 =>
      intro k hk9 Hp9 lc9 sl9 Mz9 hl9
      refine lv_iload_n hx hb dX6_die_26 rfl (lv_at hl9 1 rfl) ?_
      refine lv_bipush (v := 8) hx hb dX6_die_27 (by decide) ?_
      refine zn_icmp_ge (a := k) (b := 8) (tgt := 54) (by omega) (by decide) hx hb dX6_die_29 (by decide) (fun h => absurd h (by omega)) (fun _ => ?_)
      refine lv_aload_n hx hb dX6_die_32 rfl (lv_at hl9 0 rfl) ?_
      refine z_getf Z Mz9 hin6 0 rfl rfl 22 (by decide) L68 rfl (v := .ref (ad 22)) rfl dX6_die_33 ?_
      refine lv_bipush (v := 8) hx hb dX6_die_36 (by decide) ?_
      refine lv_aload_n hx hb dX6_die_38 rfl (lv_at hl9 0 rfl) ?_
      refine z_getf Z Mz9 hin6 0 rfl rfl 21 (by decide) L100 rfl (v := .int (σ 21 0)) rfl dX6_die_39 ?_
      refine zn_top (y := nI (nd)) (h21) ?_
      refine zn_imul (a := 8) (b := nd) hx hb dX6_die_42 ?_
      refine lv_iload_n hx hb dX6_die_43 rfl (lv_at hl9 1 rfl) ?_
      refine zn_iadd (a := 8 * nd) (b := k) hx hb dX6_die_44 ?_
      refine lv_bipush (v := 10) hx hb dX6_die_45 (by decide) ?_
      refine z_iast Z Mz9 20 (h0 := ad 22) (n := 32) (f := fil (σ 22) (8 * nd) 10 (k)) rfl (j := (8 * nd) + k) (x := 10) (by omega) (by decide) (ws' := mW o ad T (upS (upS σ 22 (upd (fil (σ 22) (8 * nd) 10 (k)) ((8 * nd) + k) 10)) 31 (fun _ => 0))) rfl dX6_die_47 (fun Hp9 lc9 Mz9 => ?_)
      refine lv_iinc (v := nI (k + 1)) (lv' := [(1, .int (nI (k + 1))), (0, .ref o)]) hx hb dX6_die_48 hl9 (k := 1) rfl (nI_add (k) 1) (by decide) rfl (fun sl9 hl9 => ?_)
      refine lv_goto (tgt := 26) hx hb dX6_die_51 (by decide) ?_
      exact ih26 (k + 1) (by omega)  _ _ _ Mz9 (lv_sub hl9 [1, 0] rfl)
  exact LP26_1 (8 - 0) (0) (by omega)  _ _ _ (zM_w (by simp only [fil, upS_id] <;> rfl) Mz9) (lv_sub hl9 [1, 0] rfl)
set_option maxHeartbeats 4000000 in
set_option maxRecDepth 100000 in
theorem cm_shape_bad (l : Launch) (D : va_G) (T : Nat → ClassId) (o : Nat) (ad : Nat → Nat) (σ : Nat → Nat → Int32) (b t w : Int32) (hg : ¬ gth (if bin (b) 0 (σ 21 0 - 1) = 0 then 0 else if bin (t) 0 7 = 0 then 0 else 1) (bin (w) (1) (400)) (1) = 0) : ZI l yX6_shape wsX6_shape (zrm 2 43) D T (mW o ad T σ) (mW o ad T (upS σ 31 (fun _ => gth (if bin (b) 0 (σ 21 0 - 1) = 0 then 0 else if bin (t) 0 7 = 0 then 0 else 1) (bin (w) (1) (400)) (1)))) [.ref o, .int (b), .int (t), .int (w)] (0) 0 0 := by
  refine z_inI (cc := cX6_shape) (maxL := 5) (rt := .int) (by decide +kernel) rfl (Nat.le_of_ble_eq_true rfl) ?_
  intro p e s m args below meth c sl9 A Q Z hnm Mz9 hl9 hret
  have Z : zC p s m args c cX6_shape 5 RX6 wsX6_shape D T A := Z
  have hx := Z.1.1
  have hb := Z.1.2.1
  have hts := Z.1.2.2.2.2
  have hin6 : ∀ w ∈ wsX60, w ∈ wsX6_shape := fun w h => List.mem_cons_of_mem _ (List.mem_append_right _ h)
  have hH0 : s.heap = s.heap := rfl
  have L68 := hts (.fieldLink RX6 68 "AnvilHouseModel" "shapes" "[I") (by decide +kernel)
  have hl9 : lv_has sl9 5 [(0, .ref o), (1, .int (b)), (2, .int (t)), (3, .int (w))] := hl9
  refine lv_aload_n hx hb dX6_shape_0 rfl (lv_at hl9 0 rfl) ?_
  refine lv_aload_n hx hb dX6_shape_1 rfl (lv_at hl9 0 rfl) ?_
  refine lv_iload_n hx hb dX6_shape_2 rfl (lv_at hl9 1 rfl) ?_
  refine z_callAi (As := [.int (b)]) (rest := [.ref o]) (rv := bin (b) 0 (σ 21 0 - 1)) (wc' := mW o ad T σ) Z Mz9 (cm_isDie l D T o ad (σ) (b)) (cwV 1 hts gX6_shape_X6_isDie rfl rfl rfl (by decide +kernel) ⟨by decide, by decide⟩) (va_recv Z.2.1 Mz9.1 (ci := 7) (q0 := 0) rfl rfl) rfl hl9.1 (Nat.le_of_ble_eq_true rfl) dX6_shape_3 ⟨by decide, by decide⟩ rfl (fun Hp9 lc9 Mz9 => ?_)
  refine lv_if_eq (tgt := 20) hx hb dX6_shape_6 (by decide) (fun c_1 => ?_) (fun c_1 => ?_)
  ·
    refine lv_iconst (v := 0) hx hb dX6_shape_20 (by decide) ?_
    refine lv_iload_n hx hb dX6_shape_21 rfl (lv_at hl9 3 rfl) ?_
    refine lv_iconst (v := 1) hx hb dX6_shape_22 (by decide) ?_
    refine lv_sipush (v := 400) hx hb dX6_shape_23 (by decide) ?_
    refine z_callSi (As := [.int (w), .int 1, .int 400]) (rest := [.int 0, .ref o]) Z.1 (cm_in l (w) (1) (400)) (va_cwS 3 hts gX6_shape_X6_in rfl rfl rfl (by decide +kernel) ⟨by decide, by decide⟩) rfl hl9.1 (Nat.le_of_ble_eq_true rfl) dX6_shape_26 ⟨by decide, by decide⟩ rfl ?_
    refine lv_iconst (v := 1) hx hb dX6_shape_29 (by decide) ?_
    refine z_callAi (As := [.int 0, .int (bin (w) (1) (400)), .int 1]) (rest := []) (rv := if gth (0) (bin (w) (1) (400)) (1) = 0 then 1 else 0) (wc' := mW o ad T (upS σ 31 (fun _ => gth (0) (bin (w) (1) (400)) (1)))) Z Mz9 (cm_goes l D T o ad (σ) (0) (bin (w) (1) (400)) (1)) (cwV 3 hts gX6_shape_X6_goes rfl rfl rfl (by decide +kernel) ⟨by decide, by decide⟩) (va_recv Z.2.1 Mz9.1 (ci := 7) (q0 := 0) rfl rfl) rfl hl9.1 (Nat.le_of_ble_eq_true rfl) dX6_shape_30 ⟨by decide, by decide⟩ rfl (fun Hp9 lc9 Mz9 => ?_)
    refine zn_top (y := 0) (by have h := hg; simp only [if_pos c_1] at h; exact if_neg h) ?_
    refine lv_if_ne (tgt := 38) hx hb dX6_shape_33 (by decide) (fun h => absurd h (by decide)) (fun _ => ?_)
    refine lv_iconst (v := 0) hx hb dX6_shape_36 (by decide) ?_
    exact hret _ _ _ _ _ sl9 _ _ Mz9 (by simp only [if_pos c_1] <;> rfl) (rfl) (rfl) (Nat.le_refl _) (Nat.le_refl _) dX6_shape_37
  ·
    refine lv_iload_n hx hb dX6_shape_9 rfl (lv_at hl9 2 rfl) ?_
    refine z_callSi (As := [.int (t)]) (rest := [.ref o]) Z.1 (cm_isSection l (t)) (va_cwS 1 hts gX6_shape_X6_isSection rfl rfl rfl (by decide +kernel) ⟨by decide, by decide⟩) rfl hl9.1 (Nat.le_of_ble_eq_true rfl) dX6_shape_10 ⟨by decide, by decide⟩ rfl ?_
    refine lv_if_eq (tgt := 20) hx hb dX6_shape_13 (by decide) (fun c_2 => ?_) (fun c_2 => ?_)
    ·
      refine lv_iconst (v := 0) hx hb dX6_shape_20 (by decide) ?_
      refine lv_iload_n hx hb dX6_shape_21 rfl (lv_at hl9 3 rfl) ?_
      refine lv_iconst (v := 1) hx hb dX6_shape_22 (by decide) ?_
      refine lv_sipush (v := 400) hx hb dX6_shape_23 (by decide) ?_
      refine z_callSi (As := [.int (w), .int 1, .int 400]) (rest := [.int 0, .ref o]) Z.1 (cm_in l (w) (1) (400)) (va_cwS 3 hts gX6_shape_X6_in rfl rfl rfl (by decide +kernel) ⟨by decide, by decide⟩) rfl hl9.1 (Nat.le_of_ble_eq_true rfl) dX6_shape_26 ⟨by decide, by decide⟩ rfl ?_
      refine lv_iconst (v := 1) hx hb dX6_shape_29 (by decide) ?_
      refine z_callAi (As := [.int 0, .int (bin (w) (1) (400)), .int 1]) (rest := []) (rv := if gth (0) (bin (w) (1) (400)) (1) = 0 then 1 else 0) (wc' := mW o ad T (upS σ 31 (fun _ => gth (0) (bin (w) (1) (400)) (1)))) Z Mz9 (cm_goes l D T o ad (σ) (0) (bin (w) (1) (400)) (1)) (cwV 3 hts gX6_shape_X6_goes rfl rfl rfl (by decide +kernel) ⟨by decide, by decide⟩) (va_recv Z.2.1 Mz9.1 (ci := 7) (q0 := 0) rfl rfl) rfl hl9.1 (Nat.le_of_ble_eq_true rfl) dX6_shape_30 ⟨by decide, by decide⟩ rfl (fun Hp9 lc9 Mz9 => ?_)
      refine zn_top (y := 0) (by have h := hg; simp only [if_neg c_1, if_pos c_2] at h; exact if_neg h) ?_
      refine lv_if_ne (tgt := 38) hx hb dX6_shape_33 (by decide) (fun h => absurd h (by decide)) (fun _ => ?_)
      refine lv_iconst (v := 0) hx hb dX6_shape_36 (by decide) ?_
      exact hret _ _ _ _ _ sl9 _ _ Mz9 (by simp only [if_neg c_1, if_pos c_2] <;> rfl) (rfl) (rfl) (Nat.le_refl _) (Nat.le_refl _) dX6_shape_37
    ·
      refine lv_iconst (v := 1) hx hb dX6_shape_16 (by decide) ?_
      refine lv_goto (tgt := 21) hx hb dX6_shape_17 (by decide) ?_
      refine lv_iload_n hx hb dX6_shape_21 rfl (lv_at hl9 3 rfl) ?_
      refine lv_iconst (v := 1) hx hb dX6_shape_22 (by decide) ?_
      refine lv_sipush (v := 400) hx hb dX6_shape_23 (by decide) ?_
      refine z_callSi (As := [.int (w), .int 1, .int 400]) (rest := [.int 1, .ref o]) Z.1 (cm_in l (w) (1) (400)) (va_cwS 3 hts gX6_shape_X6_in rfl rfl rfl (by decide +kernel) ⟨by decide, by decide⟩) rfl hl9.1 (Nat.le_of_ble_eq_true rfl) dX6_shape_26 ⟨by decide, by decide⟩ rfl ?_
      refine lv_iconst (v := 1) hx hb dX6_shape_29 (by decide) ?_
      refine z_callAi (As := [.int 1, .int (bin (w) (1) (400)), .int 1]) (rest := []) (rv := if gth (1) (bin (w) (1) (400)) (1) = 0 then 1 else 0) (wc' := mW o ad T (upS σ 31 (fun _ => gth (1) (bin (w) (1) (400)) (1)))) Z Mz9 (cm_goes l D T o ad (σ) (1) (bin (w) (1) (400)) (1)) (cwV 3 hts gX6_shape_X6_goes rfl rfl rfl (by decide +kernel) ⟨by decide, by decide⟩) (va_recv Z.2.1 Mz9.1 (ci := 7) (q0 := 0) rfl rfl) rfl hl9.1 (Nat.le_of_ble_eq_true rfl) dX6_shape_30 ⟨by decide, by decide⟩ rfl (fun Hp9 lc9 Mz9 => ?_)
      refine zn_top (y := 0) (by have h := hg; simp only [if_neg c_1, if_neg c_2] at h; exact if_neg h) ?_
      refine lv_if_ne (tgt := 38) hx hb dX6_shape_33 (by decide) (fun h => absurd h (by decide)) (fun _ => ?_)
      refine lv_iconst (v := 0) hx hb dX6_shape_36 (by decide) ?_
      exact hret _ _ _ _ _ sl9 _ _ Mz9 (by simp only [if_neg c_1, if_neg c_2] <;> rfl) (rfl) (rfl) (Nat.le_refl _) (Nat.le_refl _) dX6_shape_37
set_option maxHeartbeats 4000000 in
set_option maxRecDepth 100000 in
theorem cm_shape_ok (l : Launch) (D : va_G) (T : Nat → ClassId) (o : Nat) (ad : Nat → Nat) (σ : Nat → Nat → Int32) (d j : Nat) (w : Int32) (hd : d < 4) (hj : j < 8) (h1 : bin (nI d) 0 (σ 21 0 - 1) = 1) (h2 : bin (nI j) 0 7 = 1) (h3 : bin w 1 400 = 1) : ZI l yX6_shape wsX6_shape (zrm 2 43) D T (mW o ad T σ) (mW o ad T (upS (upS σ 22 (upd (σ 22) (8 * d + j) w)) 31 (fun _ => 0))) [.ref o, .int (nI (d)), .int (nI (j)), .int (w)] (σ 22 (8 * d + j)) 0 0 := by
  refine z_inI (cc := cX6_shape) (maxL := 5) (rt := .int) (by decide +kernel) rfl (Nat.le_of_ble_eq_true rfl) ?_
  intro p e s m args below meth c sl9 A Q Z hnm Mz9 hl9 hret
  have Z : zC p s m args c cX6_shape 5 RX6 wsX6_shape D T A := Z
  have hx := Z.1.1
  have hb := Z.1.2.1
  have hts := Z.1.2.2.2.2
  have hin6 : ∀ w ∈ wsX60, w ∈ wsX6_shape := fun w h => List.mem_cons_of_mem _ (List.mem_append_right _ h)
  have hH0 : s.heap = s.heap := rfl
  have L68 := hts (.fieldLink RX6 68 "AnvilHouseModel" "shapes" "[I") (by decide +kernel)
  have hl9 : lv_has sl9 5 [(0, .ref o), (1, .int (nI (d))), (2, .int (nI (j))), (3, .int (w))] := hl9
  refine lv_aload_n hx hb dX6_shape_0 rfl (lv_at hl9 0 rfl) ?_
  refine lv_aload_n hx hb dX6_shape_1 rfl (lv_at hl9 0 rfl) ?_
  refine lv_iload_n hx hb dX6_shape_2 rfl (lv_at hl9 1 rfl) ?_
  refine z_callAi (As := [.int (nI (d))]) (rest := [.ref o]) (rv := bin (nI (d)) 0 (σ 21 0 - 1)) (wc' := mW o ad T σ) Z Mz9 (cm_isDie l D T o ad (σ) (nI (d))) (cwV 1 hts gX6_shape_X6_isDie rfl rfl rfl (by decide +kernel) ⟨by decide, by decide⟩) (va_recv Z.2.1 Mz9.1 (ci := 7) (q0 := 0) rfl rfl) rfl hl9.1 (Nat.le_of_ble_eq_true rfl) dX6_shape_3 ⟨by decide, by decide⟩ rfl (fun Hp9 lc9 Mz9 => ?_)
  refine zn_top (y := 1) (h1) ?_
  refine lv_if_eq (tgt := 20) hx hb dX6_shape_6 (by decide) (fun h => absurd h (by decide)) (fun _ => ?_)
  refine lv_iload_n hx hb dX6_shape_9 rfl (lv_at hl9 2 rfl) ?_
  refine z_callSi (As := [.int (nI (j))]) (rest := [.ref o]) Z.1 (cm_isSection l (nI (j))) (va_cwS 1 hts gX6_shape_X6_isSection rfl rfl rfl (by decide +kernel) ⟨by decide, by decide⟩) rfl hl9.1 (Nat.le_of_ble_eq_true rfl) dX6_shape_10 ⟨by decide, by decide⟩ rfl ?_
  refine zn_top (y := 1) (h2) ?_
  refine lv_if_eq (tgt := 20) hx hb dX6_shape_13 (by decide) (fun h => absurd h (by decide)) (fun _ => ?_)
  refine lv_iconst (v := 1) hx hb dX6_shape_16 (by decide) ?_
  refine lv_goto (tgt := 21) hx hb dX6_shape_17 (by decide) ?_
  refine lv_iload_n hx hb dX6_shape_21 rfl (lv_at hl9 3 rfl) ?_
  refine lv_iconst (v := 1) hx hb dX6_shape_22 (by decide) ?_
  refine lv_sipush (v := 400) hx hb dX6_shape_23 (by decide) ?_
  refine z_callSi (As := [.int (w), .int 1, .int 400]) (rest := [.int 1, .ref o]) Z.1 (cm_in l (w) (1) (400)) (va_cwS 3 hts gX6_shape_X6_in rfl rfl rfl (by decide +kernel) ⟨by decide, by decide⟩) rfl hl9.1 (Nat.le_of_ble_eq_true rfl) dX6_shape_26 ⟨by decide, by decide⟩ rfl ?_
  refine zn_top (y := 1) (h3) ?_
  refine lv_iconst (v := 1) hx hb dX6_shape_29 (by decide) ?_
  refine z_callAi (As := [.int 1, .int 1, .int 1]) (rest := []) (rv := if gth (1) (1) (1) = 0 then 1 else 0) (wc' := mW o ad T (upS σ 31 (fun _ => 0))) Z Mz9 (cm_goes l D T o ad (σ) (1) (1) (1)) (cwV 3 hts gX6_shape_X6_goes rfl rfl rfl (by decide +kernel) ⟨by decide, by decide⟩) (va_recv Z.2.1 Mz9.1 (ci := 7) (q0 := 0) rfl rfl) rfl hl9.1 (Nat.le_of_ble_eq_true rfl) dX6_shape_30 ⟨by decide, by decide⟩ rfl (fun Hp9 lc9 Mz9 => ?_)
  refine zn_top (y := 1) (by decide) ?_
  refine lv_if_ne (tgt := 38) hx hb dX6_shape_33 (by decide) (fun _ => ?_) (fun h => absurd h (by decide))
  refine lv_aload_n hx hb dX6_shape_38 rfl (lv_at hl9 0 rfl) ?_
  refine z_getf Z Mz9 hin6 0 rfl rfl 22 (by decide) L68 rfl (v := .ref (ad 22)) rfl dX6_shape_39 ?_
  refine lv_bipush (v := 8) hx hb dX6_shape_42 (by decide) ?_
  refine lv_iload_n hx hb dX6_shape_44 rfl (lv_at hl9 1 rfl) ?_
  refine zn_imul (a := 8) (b := d) hx hb dX6_shape_45 ?_
  refine lv_iload_n hx hb dX6_shape_46 rfl (lv_at hl9 2 rfl) ?_
  refine zn_iadd (a := 8 * d) (b := j) hx hb dX6_shape_47 ?_
  refine z_iald Z Mz9 20 (h0 := ad 22) (n := 32) (f := σ 22) rfl (j := (8 * d) + j) (by omega) (by decide) dX6_shape_48 ?_
  refine lv_istore (lv' := [(4, .int ((σ 22) ((8 * d) + j))), (0, .ref o), (1, .int (nI (d))), (2, .int (nI (j))), (3, .int (w))]) hx hb dX6_shape_49 hl9 (by decide) rfl (fun sl9 hl9 => ?_)
  refine lv_aload_n hx hb dX6_shape_51 rfl (lv_at hl9 1 rfl) ?_
  refine z_getf Z Mz9 hin6 0 rfl rfl 22 (by decide) L68 rfl (v := .ref (ad 22)) rfl dX6_shape_52 ?_
  refine lv_bipush (v := 8) hx hb dX6_shape_55 (by decide) ?_
  refine lv_iload_n hx hb dX6_shape_57 rfl (lv_at hl9 2 rfl) ?_
  refine zn_imul (a := 8) (b := d) hx hb dX6_shape_58 ?_
  refine lv_iload_n hx hb dX6_shape_59 rfl (lv_at hl9 3 rfl) ?_
  refine zn_iadd (a := 8 * d) (b := j) hx hb dX6_shape_60 ?_
  refine lv_iload_n hx hb dX6_shape_61 rfl (lv_at hl9 4 rfl) ?_
  refine z_iast Z Mz9 20 (h0 := ad 22) (n := 32) (f := σ 22) rfl (j := (8 * d) + j) (x := w) (by omega) (by decide) (ws' := mW o ad T (upS (upS σ 22 (upd (σ 22) ((8 * d) + j) w)) 31 (fun _ => 0))) rfl dX6_shape_62 (fun Hp9 lc9 Mz9 => ?_)
  refine lv_iload hx hb dX6_shape_63 (lv_at hl9 0 rfl) ?_
  exact hret _ _ _ _ _ sl9 _ _ Mz9 (rfl) (rfl) (rfl) (Nat.le_refl _) (Nat.le_refl _) dX6_shape_65
set_option maxHeartbeats 4000000 in
set_option maxRecDepth 100000 in
theorem cm_sink_bad (l : Launch) (D : va_G) (T : Nat → ClassId) (o : Nat) (ad : Nat → Nat) (σ : Nat → Nat → Int32) (b : Int32) (hg : ¬ gth (bin (b) 0 (σ 21 0 - 1)) (1) (1) = 0) : ZI l yX6_sink wsX6_sink (zrm 2 43) D T (mW o ad T σ) (mW o ad T (upS σ 31 (fun _ => gth (bin (b) 0 (σ 21 0 - 1)) (1) (1)))) [.ref o, .int (b)] (0) 0 0 := by
  refine z_inI (cc := cX6_sink) (maxL := 3) (rt := .int) (by decide +kernel) rfl (Nat.le_of_ble_eq_true rfl) ?_
  intro p e s m args below meth c sl9 A Q Z hnm Mz9 hl9 hret
  have Z : zC p s m args c cX6_sink 3 RX6 wsX6_sink D T A := Z
  have hx := Z.1.1
  have hb := Z.1.2.1
  have hts := Z.1.2.2.2.2
  have hin6 : ∀ w ∈ wsX60, w ∈ wsX6_sink := fun w h => List.mem_cons_of_mem _ (List.mem_append_right _ h)
  have hH0 : s.heap = s.heap := rfl
  have L71 := hts (.fieldLink RX6 71 "AnvilHouseModel" "life" "[I") (by decide +kernel)
  have hl9 : lv_has sl9 3 [(0, .ref o), (1, .int (b))] := hl9
  refine lv_aload_n hx hb dX6_sink_0 rfl (lv_at hl9 0 rfl) ?_
  refine lv_aload_n hx hb dX6_sink_1 rfl (lv_at hl9 0 rfl) ?_
  refine lv_iload_n hx hb dX6_sink_2 rfl (lv_at hl9 1 rfl) ?_
  refine z_callAi (As := [.int (b)]) (rest := [.ref o]) (rv := bin (b) 0 (σ 21 0 - 1)) (wc' := mW o ad T σ) Z Mz9 (cm_isDie l D T o ad (σ) (b)) (cwV 1 hts gX6_sink_X6_isDie rfl rfl rfl (by decide +kernel) ⟨by decide, by decide⟩) (va_recv Z.2.1 Mz9.1 (ci := 7) (q0 := 0) rfl rfl) rfl hl9.1 (Nat.le_of_ble_eq_true rfl) dX6_sink_3 ⟨by decide, by decide⟩ rfl (fun Hp9 lc9 Mz9 => ?_)
  refine lv_iconst (v := 1) hx hb dX6_sink_6 (by decide) ?_
  refine lv_iconst (v := 1) hx hb dX6_sink_7 (by decide) ?_
  refine z_callAi (As := [.int (bin (b) 0 (σ 21 0 - 1)), .int 1, .int 1]) (rest := []) (rv := if gth (bin (b) 0 (σ 21 0 - 1)) (1) (1) = 0 then 1 else 0) (wc' := mW o ad T (upS σ 31 (fun _ => gth (bin (b) 0 (σ 21 0 - 1)) (1) (1)))) Z Mz9 (cm_goes l D T o ad (σ) (bin (b) 0 (σ 21 0 - 1)) (1) (1)) (cwV 3 hts gX6_sink_X6_goes rfl rfl rfl (by decide +kernel) ⟨by decide, by decide⟩) (va_recv Z.2.1 Mz9.1 (ci := 7) (q0 := 0) rfl rfl) rfl hl9.1 (Nat.le_of_ble_eq_true rfl) dX6_sink_8 ⟨by decide, by decide⟩ rfl (fun Hp9 lc9 Mz9 => ?_)
  refine zn_top (y := 0) (if_neg hg) ?_
  refine lv_if_ne (tgt := 16) hx hb dX6_sink_11 (by decide) (fun h => absurd h (by decide)) (fun _ => ?_)
  refine lv_iconst (v := 0) hx hb dX6_sink_14 (by decide) ?_
  exact hret _ _ _ _ _ sl9 _ _ Mz9 (rfl) (rfl) (rfl) (Nat.le_refl _) (Nat.le_refl _) dX6_sink_15
set_option maxHeartbeats 4000000 in
set_option maxRecDepth 100000 in
theorem cm_sink_ok (l : Launch) (D : va_G) (T : Nat → ClassId) (o : Nat) (ad : Nat → Nat) (σ : Nat → Nat → Int32) (d : Nat) (hd : d < 4) (h1 : bin (nI d) 0 (σ 21 0 - 1) = 1) : ZI l yX6_sink wsX6_sink (zrm 2 43) D T (mW o ad T σ) (mW o ad T (upS (upS σ 23 (upd (σ 23) d 100)) 31 (fun _ => 0))) [.ref o, .int (nI (d))] (σ 23 d) 0 0 := by
  refine z_inI (cc := cX6_sink) (maxL := 3) (rt := .int) (by decide +kernel) rfl (Nat.le_of_ble_eq_true rfl) ?_
  intro p e s m args below meth c sl9 A Q Z hnm Mz9 hl9 hret
  have Z : zC p s m args c cX6_sink 3 RX6 wsX6_sink D T A := Z
  have hx := Z.1.1
  have hb := Z.1.2.1
  have hts := Z.1.2.2.2.2
  have hin6 : ∀ w ∈ wsX60, w ∈ wsX6_sink := fun w h => List.mem_cons_of_mem _ (List.mem_append_right _ h)
  have hH0 : s.heap = s.heap := rfl
  have L71 := hts (.fieldLink RX6 71 "AnvilHouseModel" "life" "[I") (by decide +kernel)
  have hl9 : lv_has sl9 3 [(0, .ref o), (1, .int (nI (d)))] := hl9
  refine lv_aload_n hx hb dX6_sink_0 rfl (lv_at hl9 0 rfl) ?_
  refine lv_aload_n hx hb dX6_sink_1 rfl (lv_at hl9 0 rfl) ?_
  refine lv_iload_n hx hb dX6_sink_2 rfl (lv_at hl9 1 rfl) ?_
  refine z_callAi (As := [.int (nI (d))]) (rest := [.ref o]) (rv := bin (nI (d)) 0 (σ 21 0 - 1)) (wc' := mW o ad T σ) Z Mz9 (cm_isDie l D T o ad (σ) (nI (d))) (cwV 1 hts gX6_sink_X6_isDie rfl rfl rfl (by decide +kernel) ⟨by decide, by decide⟩) (va_recv Z.2.1 Mz9.1 (ci := 7) (q0 := 0) rfl rfl) rfl hl9.1 (Nat.le_of_ble_eq_true rfl) dX6_sink_3 ⟨by decide, by decide⟩ rfl (fun Hp9 lc9 Mz9 => ?_)
  refine zn_top (y := 1) (h1) ?_
  refine lv_iconst (v := 1) hx hb dX6_sink_6 (by decide) ?_
  refine lv_iconst (v := 1) hx hb dX6_sink_7 (by decide) ?_
  refine z_callAi (As := [.int 1, .int 1, .int 1]) (rest := []) (rv := if gth (1) (1) (1) = 0 then 1 else 0) (wc' := mW o ad T (upS σ 31 (fun _ => 0))) Z Mz9 (cm_goes l D T o ad (σ) (1) (1) (1)) (cwV 3 hts gX6_sink_X6_goes rfl rfl rfl (by decide +kernel) ⟨by decide, by decide⟩) (va_recv Z.2.1 Mz9.1 (ci := 7) (q0 := 0) rfl rfl) rfl hl9.1 (Nat.le_of_ble_eq_true rfl) dX6_sink_8 ⟨by decide, by decide⟩ rfl (fun Hp9 lc9 Mz9 => ?_)
  refine zn_top (y := 1) (by decide) ?_
  refine lv_if_ne (tgt := 16) hx hb dX6_sink_11 (by decide) (fun _ => ?_) (fun h => absurd h (by decide))
  refine lv_aload_n hx hb dX6_sink_16 rfl (lv_at hl9 0 rfl) ?_
  refine z_getf Z Mz9 hin6 0 rfl rfl 23 (by decide) L71 rfl (v := .ref (ad 23)) rfl dX6_sink_17 ?_
  refine lv_iload_n hx hb dX6_sink_20 rfl (lv_at hl9 1 rfl) ?_
  refine z_iald Z Mz9 21 (h0 := ad 23) (n := 4) (f := σ 23) rfl (j := d) (by omega) (by decide) dX6_sink_21 ?_
  refine lv_istore_n (lv' := [(2, .int ((σ 23) d)), (0, .ref o), (1, .int (nI (d)))]) hx hb dX6_sink_22 rfl hl9 (by decide) rfl (fun sl9 hl9 => ?_)
  refine lv_aload_n hx hb dX6_sink_23 rfl (lv_at hl9 1 rfl) ?_
  refine z_getf Z Mz9 hin6 0 rfl rfl 23 (by decide) L71 rfl (v := .ref (ad 23)) rfl dX6_sink_24 ?_
  refine lv_iload_n hx hb dX6_sink_27 rfl (lv_at hl9 2 rfl) ?_
  refine lv_bipush (v := 100) hx hb dX6_sink_28 (by decide) ?_
  refine z_iast Z Mz9 21 (h0 := ad 23) (n := 4) (f := σ 23) rfl (j := d) (x := 100) (by omega) (by decide) (ws' := mW o ad T (upS (upS σ 23 (upd (σ 23) d 100)) 31 (fun _ => 0))) rfl dX6_sink_30 (fun Hp9 lc9 Mz9 => ?_)
  refine lv_iload_n hx hb dX6_sink_31 rfl (lv_at hl9 0 rfl) ?_
  exact hret _ _ _ _ _ sl9 _ _ Mz9 (rfl) (rfl) (rfl) (Nat.le_refl _) (Nat.le_refl _) dX6_sink_32
set_option maxHeartbeats 4000000 in
set_option maxRecDepth 100000 in
theorem cm_temper_b1 (l : Launch) (D : va_G) (T : Nat → ClassId) (o : Nat) (ad : Nat → Nat) (σ : Nat → Nat → Int32) (b w : Int32) (hB : bin (b) 0 (σ 5 0 - 1) = 0) : ZI l yX6_temper wsX6_temper (zrm 2 46) D T (mW o ad T σ) (mW o ad T (upS σ 31 (fun _ => 1))) [.ref o, .int (b), .int (w)] (0) 0 0 := by
  refine z_inI (cc := cX6_temper) (maxL := 4) (rt := .int) (by decide +kernel) rfl (Nat.le_of_ble_eq_true rfl) ?_
  intro p e s m args below meth c sl9 A Q Z hnm Mz9 hl9 hret
  have Z : zC p s m args c cX6_temper 4 RX6 wsX6_temper D T A := Z
  have hx := Z.1.1
  have hb := Z.1.2.1
  have hts := Z.1.2.2.2.2
  have hin6 : ∀ w ∈ wsX60, w ∈ wsX6_temper := fun w h => List.mem_cons_of_mem _ (List.mem_append_right _ h)
  have hH0 : s.heap = s.heap := rfl
  have L53 := hts (.fieldLink RX6 53 "AnvilHouseModel" "load" "[I") (by decide +kernel)
  have L56 := hts (.fieldLink RX6 56 "AnvilHouseModel" "tempered" "[I") (by decide +kernel)
  have hl9 : lv_has sl9 4 [(0, .ref o), (1, .int (b)), (2, .int (w))] := hl9
  refine lv_aload_n hx hb dX6_temper_0 rfl (lv_at hl9 0 rfl) ?_
  refine lv_iload_n hx hb dX6_temper_1 rfl (lv_at hl9 1 rfl) ?_
  refine z_callAi (As := [.int (b)]) (rest := []) (rv := bin (b) 0 (σ 5 0 - 1)) (wc' := mW o ad T σ) Z Mz9 (cm_isBillet l D T o ad (σ) (b)) (cwV 1 hts gX6_temper_X6_isBillet rfl rfl rfl (by decide +kernel) ⟨by decide, by decide⟩) (va_recv Z.2.1 Mz9.1 (ci := 7) (q0 := 0) rfl rfl) rfl hl9.1 (Nat.le_of_ble_eq_true rfl) dX6_temper_2 ⟨by decide, by decide⟩ rfl (fun Hp9 lc9 Mz9 => ?_)
  refine zn_top (y := 0) (hB) ?_
  refine lv_istore_n (lv' := [(3, .int 0), (0, .ref o), (1, .int (b)), (2, .int (w))]) hx hb dX6_temper_5 rfl hl9 (by decide) rfl (fun sl9 hl9 => ?_)
  refine lv_aload_n hx hb dX6_temper_6 rfl (lv_at hl9 1 rfl) ?_
  refine lv_iload_n hx hb dX6_temper_7 rfl (lv_at hl9 0 rfl) ?_
  refine lv_iload_n hx hb dX6_temper_8 rfl (lv_at hl9 3 rfl) ?_
  refine lv_bipush (v := 100) hx hb dX6_temper_9 (by decide) ?_
  refine lv_sipush (v := 700) hx hb dX6_temper_11 (by decide) ?_
  refine z_callSi (As := [.int (w), .int 100, .int 700]) (rest := [.int 0, .ref o]) Z.1 (cm_in l (w) (100) (700)) (va_cwS 3 hts gX6_temper_X6_in rfl rfl rfl (by decide +kernel) ⟨by decide, by decide⟩) rfl hl9.1 (Nat.le_of_ble_eq_true rfl) dX6_temper_14 ⟨by decide, by decide⟩ rfl ?_
  refine lv_iload_n hx hb dX6_temper_17 rfl (lv_at hl9 0 rfl) ?_
  refine lv_if_eq (tgt := 43) hx hb dX6_temper_18 (by decide) (fun _ => ?_) (fun h => absurd h (by decide))
  refine lv_iconst (v := 0) hx hb dX6_temper_43 (by decide) ?_
  refine z_callAi (As := [.int 0, .int (bin (w) (100) (700)), .int 0]) (rest := []) (rv := if gth (0) (bin (w) (100) (700)) (0) = 0 then 1 else 0) (wc' := mW o ad T (upS σ 31 (fun _ => gth (0) (bin (w) (100) (700)) (0)))) Z Mz9 (cm_goes l D T o ad (σ) (0) (bin (w) (100) (700)) (0)) (cwV 3 hts gX6_temper_X6_goes rfl rfl rfl (by decide +kernel) ⟨by decide, by decide⟩) (va_recv Z.2.1 Mz9.1 (ci := 7) (q0 := 0) rfl rfl) rfl hl9.1 (Nat.le_of_ble_eq_true rfl) dX6_temper_44 ⟨by decide, by decide⟩ rfl (fun Hp9 lc9 Mz9 => ?_)
  refine zn_top (y := 0) (by rw [gth_1]; rfl) ?_
  refine lv_if_ne (tgt := 52) hx hb dX6_temper_47 (by decide) (fun h => absurd h (by decide)) (fun _ => ?_)
  refine lv_iconst (v := 0) hx hb dX6_temper_50 (by decide) ?_
  exact hret _ _ _ _ _ sl9 _ _ Mz9 (by rw [gth_1]) (rfl) (rfl) (Nat.le_refl _) (Nat.le_refl _) dX6_temper_51
set_option maxHeartbeats 4000000 in
set_option maxRecDepth 100000 in
theorem cm_temper_b2 (l : Launch) (D : va_G) (T : Nat → ClassId) (o : Nat) (ad : Nat → Nat) (σ : Nat → Nat → Int32) (i : Nat) (w : Int32) (hi : i < 12) (h1 : bin (nI i) 0 (σ 5 0 - 1) = 1) (hg : ¬ gth (1) (bin (w) (100) (700)) (if σ 16 i = -1 then 0 else 1) = 0) : ZI l yX6_temper wsX6_temper (zrm 2 46) D T (mW o ad T σ) (mW o ad T (upS σ 31 (fun _ => gth (1) (bin (w) (100) (700)) (if σ 16 i = -1 then 0 else 1)))) [.ref o, .int (nI (i)), .int (w)] (0) 0 0 := by
  refine z_inI (cc := cX6_temper) (maxL := 4) (rt := .int) (by decide +kernel) rfl (Nat.le_of_ble_eq_true rfl) ?_
  intro p e s m args below meth c sl9 A Q Z hnm Mz9 hl9 hret
  have Z : zC p s m args c cX6_temper 4 RX6 wsX6_temper D T A := Z
  have hx := Z.1.1
  have hb := Z.1.2.1
  have hts := Z.1.2.2.2.2
  have hin6 : ∀ w ∈ wsX60, w ∈ wsX6_temper := fun w h => List.mem_cons_of_mem _ (List.mem_append_right _ h)
  have hH0 : s.heap = s.heap := rfl
  have L53 := hts (.fieldLink RX6 53 "AnvilHouseModel" "load" "[I") (by decide +kernel)
  have L56 := hts (.fieldLink RX6 56 "AnvilHouseModel" "tempered" "[I") (by decide +kernel)
  have hl9 : lv_has sl9 4 [(0, .ref o), (1, .int (nI (i))), (2, .int (w))] := hl9
  refine lv_aload_n hx hb dX6_temper_0 rfl (lv_at hl9 0 rfl) ?_
  refine lv_iload_n hx hb dX6_temper_1 rfl (lv_at hl9 1 rfl) ?_
  refine z_callAi (As := [.int (nI (i))]) (rest := []) (rv := bin (nI (i)) 0 (σ 5 0 - 1)) (wc' := mW o ad T σ) Z Mz9 (cm_isBillet l D T o ad (σ) (nI (i))) (cwV 1 hts gX6_temper_X6_isBillet rfl rfl rfl (by decide +kernel) ⟨by decide, by decide⟩) (va_recv Z.2.1 Mz9.1 (ci := 7) (q0 := 0) rfl rfl) rfl hl9.1 (Nat.le_of_ble_eq_true rfl) dX6_temper_2 ⟨by decide, by decide⟩ rfl (fun Hp9 lc9 Mz9 => ?_)
  refine zn_top (y := 1) (h1) ?_
  refine lv_istore_n (lv' := [(3, .int 1), (0, .ref o), (1, .int (nI (i))), (2, .int (w))]) hx hb dX6_temper_5 rfl hl9 (by decide) rfl (fun sl9 hl9 => ?_)
  refine lv_aload_n hx hb dX6_temper_6 rfl (lv_at hl9 1 rfl) ?_
  refine lv_iload_n hx hb dX6_temper_7 rfl (lv_at hl9 0 rfl) ?_
  refine lv_iload_n hx hb dX6_temper_8 rfl (lv_at hl9 3 rfl) ?_
  refine lv_bipush (v := 100) hx hb dX6_temper_9 (by decide) ?_
  refine lv_sipush (v := 700) hx hb dX6_temper_11 (by decide) ?_
  refine z_callSi (As := [.int (w), .int 100, .int 700]) (rest := [.int 1, .ref o]) Z.1 (cm_in l (w) (100) (700)) (va_cwS 3 hts gX6_temper_X6_in rfl rfl rfl (by decide +kernel) ⟨by decide, by decide⟩) rfl hl9.1 (Nat.le_of_ble_eq_true rfl) dX6_temper_14 ⟨by decide, by decide⟩ rfl ?_
  refine lv_iload_n hx hb dX6_temper_17 rfl (lv_at hl9 0 rfl) ?_
  refine lv_if_eq (tgt := 43) hx hb dX6_temper_18 (by decide) (fun h => absurd h (by decide)) (fun _ => ?_)
  refine lv_aload_n hx hb dX6_temper_21 rfl (lv_at hl9 1 rfl) ?_
  refine z_getf Z Mz9 hin6 0 rfl rfl 16 (by decide) L53 rfl (v := .ref (ad 16)) rfl dX6_temper_22 ?_
  refine lv_iload_n hx hb dX6_temper_25 rfl (lv_at hl9 0 rfl) ?_
  refine lv_if_eq (tgt := 33) hx hb dX6_temper_26 (by decide) (fun h => absurd h (by decide)) (fun _ => ?_)
  refine lv_iload_n hx hb dX6_temper_29 rfl (lv_at hl9 2 rfl) ?_
  refine lv_goto (tgt := 34) hx hb dX6_temper_30 (by decide) ?_
  refine z_iald Z Mz9 15 (h0 := ad 16) (n := 12) (f := σ 16) rfl (j := i) (by omega) (by decide) dX6_temper_34 ?_
  refine lv_iconst (v := (-1)) hx hb dX6_temper_35 (by decide) ?_
  refine lv_icmp_eq (tgt := 43) hx hb dX6_temper_36 (by decide) (fun c_1 => ?_) (fun c_1 => ?_)
  ·
    refine lv_iconst (v := 0) hx hb dX6_temper_43 (by decide) ?_
    refine z_callAi (As := [.int 1, .int (bin (w) (100) (700)), .int 0]) (rest := []) (rv := if gth (1) (bin (w) (100) (700)) (0) = 0 then 1 else 0) (wc' := mW o ad T (upS σ 31 (fun _ => gth (1) (bin (w) (100) (700)) (0)))) Z Mz9 (cm_goes l D T o ad (σ) (1) (bin (w) (100) (700)) (0)) (cwV 3 hts gX6_temper_X6_goes rfl rfl rfl (by decide +kernel) ⟨by decide, by decide⟩) (va_recv Z.2.1 Mz9.1 (ci := 7) (q0 := 0) rfl rfl) rfl hl9.1 (Nat.le_of_ble_eq_true rfl) dX6_temper_44 ⟨by decide, by decide⟩ rfl (fun Hp9 lc9 Mz9 => ?_)
    refine zn_top (y := 0) (by have h := hg; simp only [if_pos c_1] at h; exact if_neg h) ?_
    refine lv_if_ne (tgt := 52) hx hb dX6_temper_47 (by decide) (fun h => absurd h (by decide)) (fun _ => ?_)
    refine lv_iconst (v := 0) hx hb dX6_temper_50 (by decide) ?_
    exact hret _ _ _ _ _ sl9 _ _ Mz9 (by simp only [if_pos c_1] <;> rfl) (rfl) (rfl) (Nat.le_refl _) (Nat.le_refl _) dX6_temper_51
  ·
    refine lv_iconst (v := 1) hx hb dX6_temper_39 (by decide) ?_
    refine lv_goto (tgt := 44) hx hb dX6_temper_40 (by decide) ?_
    refine z_callAi (As := [.int 1, .int (bin (w) (100) (700)), .int 1]) (rest := []) (rv := if gth (1) (bin (w) (100) (700)) (1) = 0 then 1 else 0) (wc' := mW o ad T (upS σ 31 (fun _ => gth (1) (bin (w) (100) (700)) (1)))) Z Mz9 (cm_goes l D T o ad (σ) (1) (bin (w) (100) (700)) (1)) (cwV 3 hts gX6_temper_X6_goes rfl rfl rfl (by decide +kernel) ⟨by decide, by decide⟩) (va_recv Z.2.1 Mz9.1 (ci := 7) (q0 := 0) rfl rfl) rfl hl9.1 (Nat.le_of_ble_eq_true rfl) dX6_temper_44 ⟨by decide, by decide⟩ rfl (fun Hp9 lc9 Mz9 => ?_)
    refine zn_top (y := 0) (by have h := hg; simp only [if_neg c_1] at h; exact if_neg h) ?_
    refine lv_if_ne (tgt := 52) hx hb dX6_temper_47 (by decide) (fun h => absurd h (by decide)) (fun _ => ?_)
    refine lv_iconst (v := 0) hx hb dX6_temper_50 (by decide) ?_
    exact hret _ _ _ _ _ sl9 _ _ Mz9 (by simp only [if_neg c_1] <;> rfl) (rfl) (rfl) (Nat.le_refl _) (Nat.le_refl _) dX6_temper_51
set_option maxHeartbeats 4000000 in
set_option maxRecDepth 100000 in
theorem cm_temper_ok (l : Launch) (D : va_G) (T : Nat → ClassId) (o : Nat) (ad : Nat → Nat) (σ : Nat → Nat → Int32) (i : Nat) (w : Int32) (hi : i < 12) (h1 : bin (nI i) 0 (σ 5 0 - 1) = 1) (h2 : bin w 100 700 = 1) (h3 : ¬ σ 16 i = -1) : ZI l yX6_temper wsX6_temper (zrm 2 46) D T (mW o ad T σ) (mW o ad T (upS (upS σ 17 (upd (σ 17) i (if σ 17 i < w then w else σ 17 i))) 31 (fun _ => 0))) [.ref o, .int (nI (i)), .int (w)] (SF (fun j => σ 8 (8 * i + j)) (if σ 17 i < w then w else σ 17 i)) 0 0 := by
  refine z_inI (cc := cX6_temper) (maxL := 4) (rt := .int) (by decide +kernel) rfl (Nat.le_of_ble_eq_true rfl) ?_
  intro p e s m args below meth c sl9 A Q Z hnm Mz9 hl9 hret
  have Z : zC p s m args c cX6_temper 4 RX6 wsX6_temper D T A := Z
  have hx := Z.1.1
  have hb := Z.1.2.1
  have hts := Z.1.2.2.2.2
  have hin6 : ∀ w ∈ wsX60, w ∈ wsX6_temper := fun w h => List.mem_cons_of_mem _ (List.mem_append_right _ h)
  have hH0 : s.heap = s.heap := rfl
  have L53 := hts (.fieldLink RX6 53 "AnvilHouseModel" "load" "[I") (by decide +kernel)
  have L56 := hts (.fieldLink RX6 56 "AnvilHouseModel" "tempered" "[I") (by decide +kernel)
  have hl9 : lv_has sl9 4 [(0, .ref o), (1, .int (nI (i))), (2, .int (w))] := hl9
  refine lv_aload_n hx hb dX6_temper_0 rfl (lv_at hl9 0 rfl) ?_
  refine lv_iload_n hx hb dX6_temper_1 rfl (lv_at hl9 1 rfl) ?_
  refine z_callAi (As := [.int (nI (i))]) (rest := []) (rv := bin (nI (i)) 0 (σ 5 0 - 1)) (wc' := mW o ad T σ) Z Mz9 (cm_isBillet l D T o ad (σ) (nI (i))) (cwV 1 hts gX6_temper_X6_isBillet rfl rfl rfl (by decide +kernel) ⟨by decide, by decide⟩) (va_recv Z.2.1 Mz9.1 (ci := 7) (q0 := 0) rfl rfl) rfl hl9.1 (Nat.le_of_ble_eq_true rfl) dX6_temper_2 ⟨by decide, by decide⟩ rfl (fun Hp9 lc9 Mz9 => ?_)
  refine zn_top (y := 1) (h1) ?_
  refine lv_istore_n (lv' := [(3, .int 1), (0, .ref o), (1, .int (nI (i))), (2, .int (w))]) hx hb dX6_temper_5 rfl hl9 (by decide) rfl (fun sl9 hl9 => ?_)
  refine lv_aload_n hx hb dX6_temper_6 rfl (lv_at hl9 1 rfl) ?_
  refine lv_iload_n hx hb dX6_temper_7 rfl (lv_at hl9 0 rfl) ?_
  refine lv_iload_n hx hb dX6_temper_8 rfl (lv_at hl9 3 rfl) ?_
  refine lv_bipush (v := 100) hx hb dX6_temper_9 (by decide) ?_
  refine lv_sipush (v := 700) hx hb dX6_temper_11 (by decide) ?_
  refine z_callSi (As := [.int (w), .int 100, .int 700]) (rest := [.int 1, .ref o]) Z.1 (cm_in l (w) (100) (700)) (va_cwS 3 hts gX6_temper_X6_in rfl rfl rfl (by decide +kernel) ⟨by decide, by decide⟩) rfl hl9.1 (Nat.le_of_ble_eq_true rfl) dX6_temper_14 ⟨by decide, by decide⟩ rfl ?_
  refine zn_top (y := 1) (h2) ?_
  refine lv_iload_n hx hb dX6_temper_17 rfl (lv_at hl9 0 rfl) ?_
  refine lv_if_eq (tgt := 43) hx hb dX6_temper_18 (by decide) (fun h => absurd h (by decide)) (fun _ => ?_)
  refine lv_aload_n hx hb dX6_temper_21 rfl (lv_at hl9 1 rfl) ?_
  refine z_getf Z Mz9 hin6 0 rfl rfl 16 (by decide) L53 rfl (v := .ref (ad 16)) rfl dX6_temper_22 ?_
  refine lv_iload_n hx hb dX6_temper_25 rfl (lv_at hl9 0 rfl) ?_
  refine lv_if_eq (tgt := 33) hx hb dX6_temper_26 (by decide) (fun h => absurd h (by decide)) (fun _ => ?_)
  refine lv_iload_n hx hb dX6_temper_29 rfl (lv_at hl9 2 rfl) ?_
  refine lv_goto (tgt := 34) hx hb dX6_temper_30 (by decide) ?_
  refine z_iald Z Mz9 15 (h0 := ad 16) (n := 12) (f := σ 16) rfl (j := i) (by omega) (by decide) dX6_temper_34 ?_
  refine lv_iconst (v := (-1)) hx hb dX6_temper_35 (by decide) ?_
  refine lv_icmp_eq (tgt := 43) hx hb dX6_temper_36 (by decide) (fun h => absurd h (h3)) (fun _ => ?_)
  refine lv_iconst (v := 1) hx hb dX6_temper_39 (by decide) ?_
  refine lv_goto (tgt := 44) hx hb dX6_temper_40 (by decide) ?_
  refine z_callAi (As := [.int 1, .int 1, .int 1]) (rest := []) (rv := if gth (1) (1) (1) = 0 then 1 else 0) (wc' := mW o ad T (upS σ 31 (fun _ => 0))) Z Mz9 (cm_goes l D T o ad (σ) (1) (1) (1)) (cwV 3 hts gX6_temper_X6_goes rfl rfl rfl (by decide +kernel) ⟨by decide, by decide⟩) (va_recv Z.2.1 Mz9.1 (ci := 7) (q0 := 0) rfl rfl) rfl hl9.1 (Nat.le_of_ble_eq_true rfl) dX6_temper_44 ⟨by decide, by decide⟩ rfl (fun Hp9 lc9 Mz9 => ?_)
  refine zn_top (y := 1) (by decide) ?_
  refine lv_if_ne (tgt := 52) hx hb dX6_temper_47 (by decide) (fun _ => ?_) (fun h => absurd h (by decide))
  refine lv_aload_n hx hb dX6_temper_52 rfl (lv_at hl9 1 rfl) ?_
  refine z_getf Z Mz9 hin6 0 rfl rfl 17 (by decide) L56 rfl (v := .ref (ad 17)) rfl dX6_temper_53 ?_
  refine lv_iload_n hx hb dX6_temper_56 rfl (lv_at hl9 2 rfl) ?_
  refine lv_iload_n hx hb dX6_temper_57 rfl (lv_at hl9 3 rfl) ?_
  refine lv_aload_n hx hb dX6_temper_58 rfl (lv_at hl9 1 rfl) ?_
  refine z_getf Z Mz9 hin6 0 rfl rfl 17 (by decide) L56 rfl (v := .ref (ad 17)) rfl dX6_temper_59 ?_
  refine lv_iload_n hx hb dX6_temper_62 rfl (lv_at hl9 2 rfl) ?_
  refine z_iald Z Mz9 16 (h0 := ad 17) (n := 12) (f := σ 17) rfl (j := i) (by omega) (by decide) dX6_temper_63 ?_
  refine lv_icmp_le (tgt := 71) hx hb dX6_temper_64 (by decide) (fun c_1 => ?_) (fun c_1 => ?_)
  ·
    refine lv_aload_n hx hb dX6_temper_71 rfl (lv_at hl9 1 rfl) ?_
    refine z_getf Z Mz9 hin6 0 rfl rfl 17 (by decide) L56 rfl (v := .ref (ad 17)) rfl dX6_temper_72 ?_
    refine lv_iload_n hx hb dX6_temper_75 rfl (lv_at hl9 2 rfl) ?_
    refine z_iald Z Mz9 16 (h0 := ad 17) (n := 12) (f := σ 17) rfl (j := i) (by omega) (by decide) dX6_temper_76 ?_
    refine z_iast Z Mz9 16 (h0 := ad 17) (n := 12) (f := σ 17) rfl (j := i) (x := (σ 17) i) (by omega) (by decide) (ws' := mW o ad T (upS (upS σ 17 (upd (σ 17) i ((σ 17) i))) 31 (fun _ => 0))) rfl dX6_temper_77 (fun Hp9 lc9 Mz9 => ?_)
    refine lv_aload_n hx hb dX6_temper_78 rfl (lv_at hl9 1 rfl) ?_
    refine lv_iload_n hx hb dX6_temper_79 rfl (lv_at hl9 2 rfl) ?_
    refine z_callAi (As := [.int (nI (i))]) (rest := []) (rv := SF (fun j => (σ 8) (8 * i + j)) ((upd (σ 17) i ((σ 17) i)) i)) (wc' := mW o ad T (upS (upS σ 17 (upd (σ 17) i ((σ 17) i))) 31 (fun _ => 0))) Z Mz9 (cm_softest l D T o ad (upS (upS σ 17 (upd (σ 17) i ((σ 17) i))) 31 (fun _ => 0)) (i) (by omega)) (cwV 1 hts gX6_temper_X6_softest rfl rfl rfl (by decide +kernel) ⟨by decide, by decide⟩) (va_recv Z.2.1 Mz9.1 (ci := 7) (q0 := 0) rfl rfl) rfl hl9.1 (Nat.le_of_ble_eq_true rfl) dX6_temper_80 ⟨by decide, by decide⟩ rfl (fun Hp9 lc9 Mz9 => ?_)
    exact hret _ _ _ _ _ sl9 _ _ Mz9 (by simp only [if_neg (Int32.not_lt.mpr c_1)]) (by simp only [upd_same, if_neg (Int32.not_lt.mpr c_1)]) (rfl) (Nat.le_refl _) (Nat.le_refl _) dX6_temper_83
  ·
    refine lv_iload_n hx hb dX6_temper_67 rfl (lv_at hl9 3 rfl) ?_
    refine lv_goto (tgt := 77) hx hb dX6_temper_68 (by decide) ?_
    refine z_iast Z Mz9 16 (h0 := ad 17) (n := 12) (f := σ 17) rfl (j := i) (x := w) (by omega) (by decide) (ws' := mW o ad T (upS (upS σ 17 (upd (σ 17) i w)) 31 (fun _ => 0))) rfl dX6_temper_77 (fun Hp9 lc9 Mz9 => ?_)
    refine lv_aload_n hx hb dX6_temper_78 rfl (lv_at hl9 1 rfl) ?_
    refine lv_iload_n hx hb dX6_temper_79 rfl (lv_at hl9 2 rfl) ?_
    refine z_callAi (As := [.int (nI (i))]) (rest := []) (rv := SF (fun j => (σ 8) (8 * i + j)) ((upd (σ 17) i w) i)) (wc' := mW o ad T (upS (upS σ 17 (upd (σ 17) i w)) 31 (fun _ => 0))) Z Mz9 (cm_softest l D T o ad (upS (upS σ 17 (upd (σ 17) i w)) 31 (fun _ => 0)) (i) (by omega)) (cwV 1 hts gX6_temper_X6_softest rfl rfl rfl (by decide +kernel) ⟨by decide, by decide⟩) (va_recv Z.2.1 Mz9.1 (ci := 7) (q0 := 0) rfl rfl) rfl hl9.1 (Nat.le_of_ble_eq_true rfl) dX6_temper_80 ⟨by decide, by decide⟩ rfl (fun Hp9 lc9 Mz9 => ?_)
    exact hret _ _ _ _ _ sl9 _ _ Mz9 (by simp only [if_pos (Int32.not_le.mp c_1)]) (by simp only [upd_same, if_pos (Int32.not_le.mp c_1)]) (rfl) (Nat.le_refl _) (Nat.le_refl _) dX6_temper_83
set_option maxHeartbeats 4000000 in
set_option maxRecDepth 100000 in
theorem cm_test_b1 (l : Launch) (D : va_G) (T : Nat → ClassId) (o : Nat) (ad : Nat → Nat) (σ : Nat → Nat → Int32) (b : Int32) (hB : bin (b) 0 (σ 5 0 - 1) = 0) : ZI l yX6_test wsX6_test (zrm 2 46) D T (mW o ad T σ) (mW o ad T (upS σ 31 (fun _ => 1))) [.ref o, .int (b)] (0) 0 0 := by
  refine z_inI (cc := cX6_test) (maxL := 3) (rt := .int) (by decide +kernel) rfl (Nat.le_of_ble_eq_true rfl) ?_
  intro p e s m args below meth c sl9 A Q Z hnm Mz9 hl9 hret
  have Z : zC p s m args c cX6_test 3 RX6 wsX6_test D T A := Z
  have hx := Z.1.1
  have hb := Z.1.2.1
  have hts := Z.1.2.2.2.2
  have hin6 : ∀ w ∈ wsX60, w ∈ wsX6_test := fun w h => List.mem_cons_of_mem _ (List.mem_append_right _ h)
  have hH0 : s.heap = s.heap := rfl
  have L53 := hts (.fieldLink RX6 53 "AnvilHouseModel" "load" "[I") (by decide +kernel)
  have L59 := hts (.fieldLink RX6 59 "AnvilHouseModel" "isTested" "[Z") (by decide +kernel)
  have L74 := hts (.fieldLink RX6 74 "AnvilHouseModel" "hasPiece" "[Z") (by decide +kernel)
  have L22 := hts (.fieldLink RX6 22 "AnvilHouseModel" "meltOf" "[I") (by decide +kernel)
  have hl9 : lv_has sl9 3 [(0, .ref o), (1, .int (b))] := hl9
  refine lv_aload_n hx hb dX6_test_0 rfl (lv_at hl9 0 rfl) ?_
  refine lv_iload_n hx hb dX6_test_1 rfl (lv_at hl9 1 rfl) ?_
  refine z_callAi (As := [.int (b)]) (rest := []) (rv := bin (b) 0 (σ 5 0 - 1)) (wc' := mW o ad T σ) Z Mz9 (cm_isBillet l D T o ad (σ) (b)) (cwV 1 hts gX6_test_X6_isBillet rfl rfl rfl (by decide +kernel) ⟨by decide, by decide⟩) (va_recv Z.2.1 Mz9.1 (ci := 7) (q0 := 0) rfl rfl) rfl hl9.1 (Nat.le_of_ble_eq_true rfl) dX6_test_2 ⟨by decide, by decide⟩ rfl (fun Hp9 lc9 Mz9 => ?_)
  refine zn_top (y := 0) (hB) ?_
  refine lv_istore_n (lv' := [(2, .int 0), (0, .ref o), (1, .int (b))]) hx hb dX6_test_5 rfl hl9 (by decide) rfl (fun sl9 hl9 => ?_)
  refine lv_aload_n hx hb dX6_test_6 rfl (lv_at hl9 1 rfl) ?_
  refine lv_iload_n hx hb dX6_test_7 rfl (lv_at hl9 0 rfl) ?_
  refine lv_iload_n hx hb dX6_test_8 rfl (lv_at hl9 0 rfl) ?_
  refine lv_if_eq (tgt := 34) hx hb dX6_test_9 (by decide) (fun _ => ?_) (fun h => absurd h (by decide))
  refine lv_iconst (v := 0) hx hb dX6_test_34 (by decide) ?_
  refine lv_iconst (v := 1) hx hb dX6_test_35 (by decide) ?_
  refine z_callAi (As := [.int 0, .int 0, .int 1]) (rest := []) (rv := if gth (0) (0) (1) = 0 then 1 else 0) (wc' := mW o ad T (upS σ 31 (fun _ => gth (0) (0) (1)))) Z Mz9 (cm_goes l D T o ad (σ) (0) (0) (1)) (cwV 3 hts gX6_test_X6_goes rfl rfl rfl (by decide +kernel) ⟨by decide, by decide⟩) (va_recv Z.2.1 Mz9.1 (ci := 7) (q0 := 0) rfl rfl) rfl hl9.1 (Nat.le_of_ble_eq_true rfl) dX6_test_36 ⟨by decide, by decide⟩ rfl (fun Hp9 lc9 Mz9 => ?_)
  refine zn_top (y := 0) (by rw [gth_1]; rfl) ?_
  refine lv_if_ne (tgt := 44) hx hb dX6_test_39 (by decide) (fun h => absurd h (by decide)) (fun _ => ?_)
  refine lv_iconst (v := 0) hx hb dX6_test_42 (by decide) ?_
  exact hret _ _ _ _ _ sl9 _ _ Mz9 (by rw [gth_1]) (rfl) (rfl) (Nat.le_refl _) (Nat.le_refl _) dX6_test_43
set_option maxHeartbeats 4000000 in
set_option maxRecDepth 100000 in
theorem cm_test_b2 (l : Launch) (D : va_G) (T : Nat → ClassId) (o : Nat) (ad : Nat → Nat) (σ : Nat → Nat → Int32) (i : Nat) (hi : i < 12) (h1 : bin (nI i) 0 (σ 5 0 - 1) = 1) (hg : ¬ gth (1) (if σ 16 i = -1 then 0 else 1) (1) = 0) : ZI l yX6_test wsX6_test (zrm 2 46) D T (mW o ad T σ) (mW o ad T (upS σ 31 (fun _ => gth (1) (if σ 16 i = -1 then 0 else 1) (1)))) [.ref o, .int (nI (i))] (0) 0 0 := by
  refine z_inI (cc := cX6_test) (maxL := 3) (rt := .int) (by decide +kernel) rfl (Nat.le_of_ble_eq_true rfl) ?_
  intro p e s m args below meth c sl9 A Q Z hnm Mz9 hl9 hret
  have Z : zC p s m args c cX6_test 3 RX6 wsX6_test D T A := Z
  have hx := Z.1.1
  have hb := Z.1.2.1
  have hts := Z.1.2.2.2.2
  have hin6 : ∀ w ∈ wsX60, w ∈ wsX6_test := fun w h => List.mem_cons_of_mem _ (List.mem_append_right _ h)
  have hH0 : s.heap = s.heap := rfl
  have L53 := hts (.fieldLink RX6 53 "AnvilHouseModel" "load" "[I") (by decide +kernel)
  have L59 := hts (.fieldLink RX6 59 "AnvilHouseModel" "isTested" "[Z") (by decide +kernel)
  have L74 := hts (.fieldLink RX6 74 "AnvilHouseModel" "hasPiece" "[Z") (by decide +kernel)
  have L22 := hts (.fieldLink RX6 22 "AnvilHouseModel" "meltOf" "[I") (by decide +kernel)
  have hl9 : lv_has sl9 3 [(0, .ref o), (1, .int (nI (i)))] := hl9
  refine lv_aload_n hx hb dX6_test_0 rfl (lv_at hl9 0 rfl) ?_
  refine lv_iload_n hx hb dX6_test_1 rfl (lv_at hl9 1 rfl) ?_
  refine z_callAi (As := [.int (nI (i))]) (rest := []) (rv := bin (nI (i)) 0 (σ 5 0 - 1)) (wc' := mW o ad T σ) Z Mz9 (cm_isBillet l D T o ad (σ) (nI (i))) (cwV 1 hts gX6_test_X6_isBillet rfl rfl rfl (by decide +kernel) ⟨by decide, by decide⟩) (va_recv Z.2.1 Mz9.1 (ci := 7) (q0 := 0) rfl rfl) rfl hl9.1 (Nat.le_of_ble_eq_true rfl) dX6_test_2 ⟨by decide, by decide⟩ rfl (fun Hp9 lc9 Mz9 => ?_)
  refine zn_top (y := 1) (h1) ?_
  refine lv_istore_n (lv' := [(2, .int 1), (0, .ref o), (1, .int (nI (i)))]) hx hb dX6_test_5 rfl hl9 (by decide) rfl (fun sl9 hl9 => ?_)
  refine lv_aload_n hx hb dX6_test_6 rfl (lv_at hl9 1 rfl) ?_
  refine lv_iload_n hx hb dX6_test_7 rfl (lv_at hl9 0 rfl) ?_
  refine lv_iload_n hx hb dX6_test_8 rfl (lv_at hl9 0 rfl) ?_
  refine lv_if_eq (tgt := 34) hx hb dX6_test_9 (by decide) (fun h => absurd h (by decide)) (fun _ => ?_)
  refine lv_aload_n hx hb dX6_test_12 rfl (lv_at hl9 1 rfl) ?_
  refine z_getf Z Mz9 hin6 0 rfl rfl 16 (by decide) L53 rfl (v := .ref (ad 16)) rfl dX6_test_13 ?_
  refine lv_iload_n hx hb dX6_test_16 rfl (lv_at hl9 0 rfl) ?_
  refine lv_if_eq (tgt := 24) hx hb dX6_test_17 (by decide) (fun h => absurd h (by decide)) (fun _ => ?_)
  refine lv_iload_n hx hb dX6_test_20 rfl (lv_at hl9 2 rfl) ?_
  refine lv_goto (tgt := 25) hx hb dX6_test_21 (by decide) ?_
  refine z_iald Z Mz9 15 (h0 := ad 16) (n := 12) (f := σ 16) rfl (j := i) (by omega) (by decide) dX6_test_25 ?_
  refine lv_iconst (v := (-1)) hx hb dX6_test_26 (by decide) ?_
  refine lv_icmp_eq (tgt := 34) hx hb dX6_test_27 (by decide) (fun c_1 => ?_) (fun c_1 => ?_)
  ·
    refine lv_iconst (v := 0) hx hb dX6_test_34 (by decide) ?_
    refine lv_iconst (v := 1) hx hb dX6_test_35 (by decide) ?_
    refine z_callAi (As := [.int 1, .int 0, .int 1]) (rest := []) (rv := if gth (1) (0) (1) = 0 then 1 else 0) (wc' := mW o ad T (upS σ 31 (fun _ => gth (1) (0) (1)))) Z Mz9 (cm_goes l D T o ad (σ) (1) (0) (1)) (cwV 3 hts gX6_test_X6_goes rfl rfl rfl (by decide +kernel) ⟨by decide, by decide⟩) (va_recv Z.2.1 Mz9.1 (ci := 7) (q0 := 0) rfl rfl) rfl hl9.1 (Nat.le_of_ble_eq_true rfl) dX6_test_36 ⟨by decide, by decide⟩ rfl (fun Hp9 lc9 Mz9 => ?_)
    refine zn_top (y := 0) (by have h := hg; simp only [if_pos c_1] at h; exact if_neg h) ?_
    refine lv_if_ne (tgt := 44) hx hb dX6_test_39 (by decide) (fun h => absurd h (by decide)) (fun _ => ?_)
    refine lv_iconst (v := 0) hx hb dX6_test_42 (by decide) ?_
    exact hret _ _ _ _ _ sl9 _ _ Mz9 (by simp only [if_pos c_1] <;> rfl) (rfl) (rfl) (Nat.le_refl _) (Nat.le_refl _) dX6_test_43
  ·
    refine lv_iconst (v := 1) hx hb dX6_test_30 (by decide) ?_
    refine lv_goto (tgt := 35) hx hb dX6_test_31 (by decide) ?_
    refine lv_iconst (v := 1) hx hb dX6_test_35 (by decide) ?_
    refine z_callAi (As := [.int 1, .int 1, .int 1]) (rest := []) (rv := if gth (1) (1) (1) = 0 then 1 else 0) (wc' := mW o ad T (upS σ 31 (fun _ => 0))) Z Mz9 (cm_goes l D T o ad (σ) (1) (1) (1)) (cwV 3 hts gX6_test_X6_goes rfl rfl rfl (by decide +kernel) ⟨by decide, by decide⟩) (va_recv Z.2.1 Mz9.1 (ci := 7) (q0 := 0) rfl rfl) rfl hl9.1 (Nat.le_of_ble_eq_true rfl) dX6_test_36 ⟨by decide, by decide⟩ rfl (fun Hp9 lc9 Mz9 => ?_)
    refine zn_top (y := 0) (by have h := hg; simp only [if_neg c_1] at h; exact if_neg h) ?_
    refine lv_if_ne (tgt := 44) hx hb dX6_test_39 (by decide) (fun h => absurd h (by decide)) (fun _ => ?_)
    refine lv_iconst (v := 0) hx hb dX6_test_42 (by decide) ?_
    exact hret _ _ _ _ _ sl9 _ _ Mz9 (by simp only [if_neg c_1] <;> rfl) (rfl) (rfl) (Nat.le_refl _) (Nat.le_refl _) dX6_test_43
set_option maxHeartbeats 4000000 in
set_option maxRecDepth 100000 in
theorem cm_test_ok (l : Launch) (D : va_G) (T : Nat → ClassId) (o : Nat) (ad : Nat → Nat) (σ : Nat → Nat → Int32) (i ld mo : Nat) (hi : i < 12) (h1 : bin (nI i) 0 (σ 5 0 - 1) = 1) (hld : ld < 20) (hmo : mo < 20) (h3 : σ 16 i = nI ld) (h6 : σ 6 i = nI mo) : ZI l yX6_test wsX6_test (zrm 2 46) D T (mW o ad T σ) (mW o ad T (upS (upS (upS σ 18 (upd (σ 18) i 1)) 25 (upd (σ 25) (20 * ld + mo) 1)) 31 (fun _ => 0))) [.ref o, .int (nI (i))] (SF (fun j => σ 8 (8 * i + j)) (σ 17 i)) 0 0 := by
  refine z_inI (cc := cX6_test) (maxL := 3) (rt := .int) (by decide +kernel) rfl (Nat.le_of_ble_eq_true rfl) ?_
  intro p e s m args below meth c sl9 A Q Z hnm Mz9 hl9 hret
  have Z : zC p s m args c cX6_test 3 RX6 wsX6_test D T A := Z
  have hx := Z.1.1
  have hb := Z.1.2.1
  have hts := Z.1.2.2.2.2
  have hin6 : ∀ w ∈ wsX60, w ∈ wsX6_test := fun w h => List.mem_cons_of_mem _ (List.mem_append_right _ h)
  have hH0 : s.heap = s.heap := rfl
  have L53 := hts (.fieldLink RX6 53 "AnvilHouseModel" "load" "[I") (by decide +kernel)
  have L59 := hts (.fieldLink RX6 59 "AnvilHouseModel" "isTested" "[Z") (by decide +kernel)
  have L74 := hts (.fieldLink RX6 74 "AnvilHouseModel" "hasPiece" "[Z") (by decide +kernel)
  have L22 := hts (.fieldLink RX6 22 "AnvilHouseModel" "meltOf" "[I") (by decide +kernel)
  have hl9 : lv_has sl9 3 [(0, .ref o), (1, .int (nI (i)))] := hl9
  refine lv_aload_n hx hb dX6_test_0 rfl (lv_at hl9 0 rfl) ?_
  refine lv_iload_n hx hb dX6_test_1 rfl (lv_at hl9 1 rfl) ?_
  refine z_callAi (As := [.int (nI (i))]) (rest := []) (rv := bin (nI (i)) 0 (σ 5 0 - 1)) (wc' := mW o ad T σ) Z Mz9 (cm_isBillet l D T o ad (σ) (nI (i))) (cwV 1 hts gX6_test_X6_isBillet rfl rfl rfl (by decide +kernel) ⟨by decide, by decide⟩) (va_recv Z.2.1 Mz9.1 (ci := 7) (q0 := 0) rfl rfl) rfl hl9.1 (Nat.le_of_ble_eq_true rfl) dX6_test_2 ⟨by decide, by decide⟩ rfl (fun Hp9 lc9 Mz9 => ?_)
  refine zn_top (y := 1) (h1) ?_
  refine lv_istore_n (lv' := [(2, .int 1), (0, .ref o), (1, .int (nI (i)))]) hx hb dX6_test_5 rfl hl9 (by decide) rfl (fun sl9 hl9 => ?_)
  refine lv_aload_n hx hb dX6_test_6 rfl (lv_at hl9 1 rfl) ?_
  refine lv_iload_n hx hb dX6_test_7 rfl (lv_at hl9 0 rfl) ?_
  refine lv_iload_n hx hb dX6_test_8 rfl (lv_at hl9 0 rfl) ?_
  refine lv_if_eq (tgt := 34) hx hb dX6_test_9 (by decide) (fun h => absurd h (by decide)) (fun _ => ?_)
  refine lv_aload_n hx hb dX6_test_12 rfl (lv_at hl9 1 rfl) ?_
  refine z_getf Z Mz9 hin6 0 rfl rfl 16 (by decide) L53 rfl (v := .ref (ad 16)) rfl dX6_test_13 ?_
  refine lv_iload_n hx hb dX6_test_16 rfl (lv_at hl9 0 rfl) ?_
  refine lv_if_eq (tgt := 24) hx hb dX6_test_17 (by decide) (fun h => absurd h (by decide)) (fun _ => ?_)
  refine lv_iload_n hx hb dX6_test_20 rfl (lv_at hl9 2 rfl) ?_
  refine lv_goto (tgt := 25) hx hb dX6_test_21 (by decide) ?_
  refine z_iald Z Mz9 15 (h0 := ad 16) (n := 12) (f := σ 16) rfl (j := i) (by omega) (by decide) dX6_test_25 ?_
  refine zn_top (y := nI (ld)) (h3) ?_
  refine lv_iconst (v := (-1)) hx hb dX6_test_26 (by decide) ?_
  refine lv_icmp_eq (tgt := 34) hx hb dX6_test_27 (by decide) (fun h => absurd h (nI_nm1 (by omega))) (fun _ => ?_)
  refine lv_iconst (v := 1) hx hb dX6_test_30 (by decide) ?_
  refine lv_goto (tgt := 35) hx hb dX6_test_31 (by decide) ?_
  refine lv_iconst (v := 1) hx hb dX6_test_35 (by decide) ?_
  refine z_callAi (As := [.int 1, .int 1, .int 1]) (rest := []) (rv := if gth (1) (1) (1) = 0 then 1 else 0) (wc' := mW o ad T (upS σ 31 (fun _ => 0))) Z Mz9 (cm_goes l D T o ad (σ) (1) (1) (1)) (cwV 3 hts gX6_test_X6_goes rfl rfl rfl (by decide +kernel) ⟨by decide, by decide⟩) (va_recv Z.2.1 Mz9.1 (ci := 7) (q0 := 0) rfl rfl) rfl hl9.1 (Nat.le_of_ble_eq_true rfl) dX6_test_36 ⟨by decide, by decide⟩ rfl (fun Hp9 lc9 Mz9 => ?_)
  refine zn_top (y := 1) (by decide) ?_
  refine lv_if_ne (tgt := 44) hx hb dX6_test_39 (by decide) (fun _ => ?_) (fun h => absurd h (by decide))
  refine lv_aload_n hx hb dX6_test_44 rfl (lv_at hl9 1 rfl) ?_
  refine z_getf Z Mz9 hin6 0 rfl rfl 18 (by decide) L59 rfl (v := .ref (ad 18)) rfl dX6_test_45 ?_
  refine lv_iload_n hx hb dX6_test_48 rfl (lv_at hl9 2 rfl) ?_
  refine lv_iconst (v := 1) hx hb dX6_test_49 (by decide) ?_
  refine z_zast Z Mz9 17 (h0 := ad 18) (n := 12) (f := σ 18) rfl (j := i) (x := 1) (by omega) (by decide) (hx1 := by decide) (ws' := mW o ad T (upS (upS σ 18 (upd (σ 18) i 1)) 31 (fun _ => 0))) rfl dX6_test_50 (fun Hp9 lc9 Mz9 => ?_)
  refine lv_aload_n hx hb dX6_test_51 rfl (lv_at hl9 1 rfl) ?_
  refine z_getf Z Mz9 hin6 0 rfl rfl 25 (by decide) L74 rfl (v := .ref (ad 25)) rfl dX6_test_52 ?_
  refine lv_bipush (v := 20) hx hb dX6_test_55 (by decide) ?_
  refine lv_aload_n hx hb dX6_test_57 rfl (lv_at hl9 1 rfl) ?_
  refine z_getf Z Mz9 hin6 0 rfl rfl 16 (by decide) L53 rfl (v := .ref (ad 16)) rfl dX6_test_58 ?_
  refine lv_iload_n hx hb dX6_test_61 rfl (lv_at hl9 2 rfl) ?_
  refine z_iald Z Mz9 15 (h0 := ad 16) (n := 12) (f := σ 16) rfl (j := i) (by omega) (by decide) dX6_test_62 ?_
  refine zn_top (y := nI (ld)) (h3) ?_
  refine zn_imul (a := 20) (b := ld) hx hb dX6_test_63 ?_
  refine lv_aload_n hx hb dX6_test_64 rfl (lv_at hl9 1 rfl) ?_
  refine z_getf Z Mz9 hin6 0 rfl rfl 6 (by decide) L22 rfl (v := .ref (ad 6)) rfl dX6_test_65 ?_
  refine lv_iload_n hx hb dX6_test_68 rfl (lv_at hl9 2 rfl) ?_
  refine z_iald Z Mz9 5 (h0 := ad 6) (n := 12) (f := σ 6) rfl (j := i) (by omega) (by decide) dX6_test_69 ?_
  refine zn_top (y := nI (mo)) (h6) ?_
  refine zn_iadd (a := 20 * ld) (b := mo) hx hb dX6_test_70 ?_
  refine lv_iconst (v := 1) hx hb dX6_test_71 (by decide) ?_
  refine z_zast Z Mz9 22 (h0 := ad 25) (n := 400) (f := σ 25) rfl (j := (20 * ld) + mo) (x := 1) (by omega) (by decide) (hx1 := by decide) (ws' := mW o ad T (upS (upS (upS σ 18 (upd (σ 18) i 1)) 25 (upd (σ 25) ((20 * ld) + mo) 1)) 31 (fun _ => 0))) rfl dX6_test_72 (fun Hp9 lc9 Mz9 => ?_)
  refine lv_aload_n hx hb dX6_test_73 rfl (lv_at hl9 1 rfl) ?_
  refine lv_iload_n hx hb dX6_test_74 rfl (lv_at hl9 2 rfl) ?_
  refine z_callAi (As := [.int (nI (i))]) (rest := []) (rv := SF (fun j => (σ 8) (8 * i + j)) ((σ 17) i)) (wc' := mW o ad T (upS (upS (upS σ 18 (upd (σ 18) i 1)) 25 (upd (σ 25) ((20 * ld) + mo) 1)) 31 (fun _ => 0))) Z Mz9 (cm_softest l D T o ad (upS (upS (upS σ 18 (upd (σ 18) i 1)) 25 (upd (σ 25) ((20 * ld) + mo) 1)) 31 (fun _ => 0)) (i) (by omega)) (cwV 1 hts gX6_test_X6_softest rfl rfl rfl (by decide +kernel) ⟨by decide, by decide⟩) (va_recv Z.2.1 Mz9.1 (ci := 7) (q0 := 0) rfl rfl) rfl hl9.1 (Nat.le_of_ble_eq_true rfl) dX6_test_75 ⟨by decide, by decide⟩ rfl (fun Hp9 lc9 Mz9 => ?_)
  exact hret _ _ _ _ _ sl9 _ _ Mz9 (rfl) (rfl) (rfl) (Nat.le_refl _) (Nat.le_refl _) dX6_test_78
set_option maxHeartbeats 4000000 in
set_option maxRecDepth 100000 in
theorem cm_paper_bad (l : Launch) (D : va_G) (T : Nat → ClassId) (o : Nat) (ad : Nat → Nat) (σ : Nat → Nat → Int32) (b w : Int32) (hg : ¬ gth (bin (b) 0 (σ 5 0 - 1)) (bin (w) (0) (70)) (1) = 0) : ZI l yX6_paper wsX6_paper (zrm 2 46) D T (mW o ad T σ) (mW o ad T (upS σ 31 (fun _ => gth (bin (b) 0 (σ 5 0 - 1)) (bin (w) (0) (70)) (1)))) [.ref o, .int (b), .int (w)] (0) 0 0 := by
  refine z_inI (cc := cX6_paper) (maxL := 4) (rt := .int) (by decide +kernel) rfl (Nat.le_of_ble_eq_true rfl) ?_
  intro p e s m args below meth c sl9 A Q Z hnm Mz9 hl9 hret
  have Z : zC p s m args c cX6_paper 4 RX6 wsX6_paper D T A := Z
  have hx := Z.1.1
  have hb := Z.1.2.1
  have hts := Z.1.2.2.2.2
  have hin6 : ∀ w ∈ wsX60, w ∈ wsX6_paper := fun w h => List.mem_cons_of_mem _ (List.mem_append_right _ h)
  have hH0 : s.heap = s.heap := rfl
  have L59 := hts (.fieldLink RX6 59 "AnvilHouseModel" "isTested" "[Z") (by decide +kernel)
  have L53 := hts (.fieldLink RX6 53 "AnvilHouseModel" "load" "[I") (by decide +kernel)
  have L46 := hts (.fieldLink RX6 46 "AnvilHouseModel" "hasCrack" "[Z") (by decide +kernel)
  have L43 := hts (.fieldLink RX6 43 "AnvilHouseModel" "laps" "[I") (by decide +kernel)
  have L74 := hts (.fieldLink RX6 74 "AnvilHouseModel" "hasPiece" "[Z") (by decide +kernel)
  have L22 := hts (.fieldLink RX6 22 "AnvilHouseModel" "meltOf" "[I") (by decide +kernel)
  have hl9 : lv_has sl9 4 [(0, .ref o), (1, .int (b)), (2, .int (w))] := hl9
  refine lv_aload_n hx hb dX6_paper_0 rfl (lv_at hl9 0 rfl) ?_
  refine lv_aload_n hx hb dX6_paper_1 rfl (lv_at hl9 0 rfl) ?_
  refine lv_iload_n hx hb dX6_paper_2 rfl (lv_at hl9 1 rfl) ?_
  refine z_callAi (As := [.int (b)]) (rest := [.ref o]) (rv := bin (b) 0 (σ 5 0 - 1)) (wc' := mW o ad T σ) Z Mz9 (cm_isBillet l D T o ad (σ) (b)) (cwV 1 hts gX6_paper_X6_isBillet rfl rfl rfl (by decide +kernel) ⟨by decide, by decide⟩) (va_recv Z.2.1 Mz9.1 (ci := 7) (q0 := 0) rfl rfl) rfl hl9.1 (Nat.le_of_ble_eq_true rfl) dX6_paper_3 ⟨by decide, by decide⟩ rfl (fun Hp9 lc9 Mz9 => ?_)
  refine lv_iload_n hx hb dX6_paper_6 rfl (lv_at hl9 2 rfl) ?_
  refine lv_iconst (v := 0) hx hb dX6_paper_7 (by decide) ?_
  refine lv_bipush (v := 70) hx hb dX6_paper_8 (by decide) ?_
  refine z_callSi (As := [.int (w), .int 0, .int 70]) (rest := [.int (bin (b) 0 (σ 5 0 - 1)), .ref o]) Z.1 (cm_in l (w) (0) (70)) (va_cwS 3 hts gX6_paper_X6_in rfl rfl rfl (by decide +kernel) ⟨by decide, by decide⟩) rfl hl9.1 (Nat.le_of_ble_eq_true rfl) dX6_paper_10 ⟨by decide, by decide⟩ rfl ?_
  refine lv_iconst (v := 1) hx hb dX6_paper_13 (by decide) ?_
  refine z_callAi (As := [.int (bin (b) 0 (σ 5 0 - 1)), .int (bin (w) (0) (70)), .int 1]) (rest := []) (rv := if gth (bin (b) 0 (σ 5 0 - 1)) (bin (w) (0) (70)) (1) = 0 then 1 else 0) (wc' := mW o ad T (upS σ 31 (fun _ => gth (bin (b) 0 (σ 5 0 - 1)) (bin (w) (0) (70)) (1)))) Z Mz9 (cm_goes l D T o ad (σ) (bin (b) 0 (σ 5 0 - 1)) (bin (w) (0) (70)) (1)) (cwV 3 hts gX6_paper_X6_goes rfl rfl rfl (by decide +kernel) ⟨by decide, by decide⟩) (va_recv Z.2.1 Mz9.1 (ci := 7) (q0 := 0) rfl rfl) rfl hl9.1 (Nat.le_of_ble_eq_true rfl) dX6_paper_14 ⟨by decide, by decide⟩ rfl (fun Hp9 lc9 Mz9 => ?_)
  refine zn_top (y := 0) (if_neg hg) ?_
  refine lv_if_ne (tgt := 22) hx hb dX6_paper_17 (by decide) (fun h => absurd h (by decide)) (fun _ => ?_)
  refine lv_iconst (v := 0) hx hb dX6_paper_20 (by decide) ?_
  exact hret _ _ _ _ _ sl9 _ _ Mz9 (rfl) (rfl) (rfl) (Nat.le_refl _) (Nat.le_refl _) dX6_paper_21
set_option maxHeartbeats 4000000 in
set_option maxRecDepth 100000 in
theorem cm_paper_ok0 (l : Launch) (D : va_G) (T : Nat → ClassId) (o : Nat) (ad : Nat → Nat) (σ : Nat → Nat → Int32) (i : Nat) (w : Int32) (hi : i < 12) (h1 : bin (nI i) 0 (σ 5 0 - 1) = 1) (h2 : bin w 0 70 = 1) (h3 : σ 16 i = -1) : ZI l yX6_paper wsX6_paper (zrm 2 46) D T (mW o ad T σ) (mW o ad T (upS σ 31 (fun _ => 0))) [.ref o, .int (nI (i)), .int (w)] (-1) 0 0 := by
  refine z_inI (cc := cX6_paper) (maxL := 4) (rt := .int) (by decide +kernel) rfl (Nat.le_of_ble_eq_true rfl) ?_
  intro p e s m args below meth c sl9 A Q Z hnm Mz9 hl9 hret
  have Z : zC p s m args c cX6_paper 4 RX6 wsX6_paper D T A := Z
  have hx := Z.1.1
  have hb := Z.1.2.1
  have hts := Z.1.2.2.2.2
  have hin6 : ∀ w ∈ wsX60, w ∈ wsX6_paper := fun w h => List.mem_cons_of_mem _ (List.mem_append_right _ h)
  have hH0 : s.heap = s.heap := rfl
  have L59 := hts (.fieldLink RX6 59 "AnvilHouseModel" "isTested" "[Z") (by decide +kernel)
  have L53 := hts (.fieldLink RX6 53 "AnvilHouseModel" "load" "[I") (by decide +kernel)
  have L46 := hts (.fieldLink RX6 46 "AnvilHouseModel" "hasCrack" "[Z") (by decide +kernel)
  have L43 := hts (.fieldLink RX6 43 "AnvilHouseModel" "laps" "[I") (by decide +kernel)
  have L74 := hts (.fieldLink RX6 74 "AnvilHouseModel" "hasPiece" "[Z") (by decide +kernel)
  have L22 := hts (.fieldLink RX6 22 "AnvilHouseModel" "meltOf" "[I") (by decide +kernel)
  have hl9 : lv_has sl9 4 [(0, .ref o), (1, .int (nI (i))), (2, .int (w))] := hl9
  refine lv_aload_n hx hb dX6_paper_0 rfl (lv_at hl9 0 rfl) ?_
  refine lv_aload_n hx hb dX6_paper_1 rfl (lv_at hl9 0 rfl) ?_
  refine lv_iload_n hx hb dX6_paper_2 rfl (lv_at hl9 1 rfl) ?_
  refine z_callAi (As := [.int (nI (i))]) (rest := [.ref o]) (rv := bin (nI (i)) 0 (σ 5 0 - 1)) (wc' := mW o ad T σ) Z Mz9 (cm_isBillet l D T o ad (σ) (nI (i))) (cwV 1 hts gX6_paper_X6_isBillet rfl rfl rfl (by decide +kernel) ⟨by decide, by decide⟩) (va_recv Z.2.1 Mz9.1 (ci := 7) (q0 := 0) rfl rfl) rfl hl9.1 (Nat.le_of_ble_eq_true rfl) dX6_paper_3 ⟨by decide, by decide⟩ rfl (fun Hp9 lc9 Mz9 => ?_)
  refine zn_top (y := 1) (h1) ?_
  refine lv_iload_n hx hb dX6_paper_6 rfl (lv_at hl9 2 rfl) ?_
  refine lv_iconst (v := 0) hx hb dX6_paper_7 (by decide) ?_
  refine lv_bipush (v := 70) hx hb dX6_paper_8 (by decide) ?_
  refine z_callSi (As := [.int (w), .int 0, .int 70]) (rest := [.int 1, .ref o]) Z.1 (cm_in l (w) (0) (70)) (va_cwS 3 hts gX6_paper_X6_in rfl rfl rfl (by decide +kernel) ⟨by decide, by decide⟩) rfl hl9.1 (Nat.le_of_ble_eq_true rfl) dX6_paper_10 ⟨by decide, by decide⟩ rfl ?_
  refine zn_top (y := 1) (h2) ?_
  refine lv_iconst (v := 1) hx hb dX6_paper_13 (by decide) ?_
  refine z_callAi (As := [.int 1, .int 1, .int 1]) (rest := []) (rv := if gth (1) (1) (1) = 0 then 1 else 0) (wc' := mW o ad T (upS σ 31 (fun _ => 0))) Z Mz9 (cm_goes l D T o ad (σ) (1) (1) (1)) (cwV 3 hts gX6_paper_X6_goes rfl rfl rfl (by decide +kernel) ⟨by decide, by decide⟩) (va_recv Z.2.1 Mz9.1 (ci := 7) (q0 := 0) rfl rfl) rfl hl9.1 (Nat.le_of_ble_eq_true rfl) dX6_paper_14 ⟨by decide, by decide⟩ rfl (fun Hp9 lc9 Mz9 => ?_)
  refine zn_top (y := 1) (by decide) ?_
  refine lv_if_ne (tgt := 22) hx hb dX6_paper_17 (by decide) (fun _ => ?_) (fun h => absurd h (by decide))
  refine lv_aload_n hx hb dX6_paper_22 rfl (lv_at hl9 0 rfl) ?_
  refine z_getf Z Mz9 hin6 0 rfl rfl 18 (by decide) L59 rfl (v := .ref (ad 18)) rfl dX6_paper_23 ?_
  refine lv_iload_n hx hb dX6_paper_26 rfl (lv_at hl9 1 rfl) ?_
  refine z_zald Z Mz9 17 (h0 := ad 18) (n := 12) (f := σ 18) rfl (j := i) (by omega) (by decide) dX6_paper_27 ?_
  refine lv_if_ne (tgt := 72) hx hb dX6_paper_28 (by decide) (fun c_1 => ?_) (fun c_1 => ?_)
  ·
    refine lv_iconst (v := 0) hx hb dX6_paper_72 (by decide) ?_
    refine lv_istore_n (lv' := [(3, .int 0), (0, .ref o), (1, .int (nI (i))), (2, .int (w))]) hx hb dX6_paper_73 rfl hl9 (by decide) rfl (fun sl9 hl9 => ?_)
    refine lv_iload_n hx hb dX6_paper_74 rfl (lv_at hl9 0 rfl) ?_
    refine lv_if_eq (tgt := 111) hx hb dX6_paper_75 (by decide) (fun _ => ?_) (fun h => absurd h (by decide))
    refine lv_iconst (v := (-1)) hx hb dX6_paper_111 (by decide) ?_
    exact hret _ _ _ _ _ sl9 _ _ Mz9 (rfl) (rfl) (rfl) (Nat.le_refl _) (Nat.le_refl _) dX6_paper_112
  ·
    refine lv_aload_n hx hb dX6_paper_31 rfl (lv_at hl9 0 rfl) ?_
    refine z_getf Z Mz9 hin6 0 rfl rfl 16 (by decide) L53 rfl (v := .ref (ad 16)) rfl dX6_paper_32 ?_
    refine lv_iload_n hx hb dX6_paper_35 rfl (lv_at hl9 1 rfl) ?_
    refine z_iald Z Mz9 15 (h0 := ad 16) (n := 12) (f := σ 16) rfl (j := i) (by omega) (by decide) dX6_paper_36 ?_
    refine zn_top (y := (-1)) (h3) ?_
    refine lv_iconst (v := (-1)) hx hb dX6_paper_37 (by decide) ?_
    refine lv_icmp_eq (tgt := 72) hx hb dX6_paper_38 (by decide) (fun _ => ?_) (fun h => absurd h (by decide))
    refine lv_iconst (v := 0) hx hb dX6_paper_72 (by decide) ?_
    refine lv_istore_n (lv' := [(3, .int 0), (0, .ref o), (1, .int (nI (i))), (2, .int (w))]) hx hb dX6_paper_73 rfl hl9 (by decide) rfl (fun sl9 hl9 => ?_)
    refine lv_iload_n hx hb dX6_paper_74 rfl (lv_at hl9 0 rfl) ?_
    refine lv_if_eq (tgt := 111) hx hb dX6_paper_75 (by decide) (fun _ => ?_) (fun h => absurd h (by decide))
    refine lv_iconst (v := (-1)) hx hb dX6_paper_111 (by decide) ?_
    exact hret _ _ _ _ _ sl9 _ _ Mz9 (rfl) (rfl) (rfl) (Nat.le_refl _) (Nat.le_refl _) dX6_paper_112
set_option maxHeartbeats 4000000 in
set_option maxRecDepth 100000 in
theorem cm_paper_ok (l : Launch) (D : va_G) (T : Nat → ClassId) (o : Nat) (ad : Nat → Nat) (σ : Nat → Nat → Int32) (i ld mo : Nat) (w : Int32) (hi : i < 12) (h1 : bin (nI i) 0 (σ 5 0 - 1) = 1) (h2 : bin w 0 70 = 1) (hld : ld < 20) (hmo : mo < 20) (h3 : σ 16 i = nI ld) (h6 : σ 6 i = nI mo) : ZI l yX6_paper wsX6_paper (zrm 2 46) D T (mW o ad T σ) (mW o ad T (upS σ 31 (fun _ => 0))) [.ref o, .int (nI (i)), .int (w)] (if σ 18 i = 0 then (if σ 14 i = 0 then (if σ 13 i = 0 then (if SF (fun j => σ 8 (8 * i + j)) (σ 17 i) < w then -1 else if σ 25 (20 * ld + mo) = 0 then -1 else nI mo) else -1) else -1) else -1) 0 0 := by
  refine z_inI (cc := cX6_paper) (maxL := 4) (rt := .int) (by decide +kernel) rfl (Nat.le_of_ble_eq_true rfl) ?_
  intro p e s m args below meth c sl9 A Q Z hnm Mz9 hl9 hret
  have Z : zC p s m args c cX6_paper 4 RX6 wsX6_paper D T A := Z
  have hx := Z.1.1
  have hb := Z.1.2.1
  have hts := Z.1.2.2.2.2
  have hin6 : ∀ w ∈ wsX60, w ∈ wsX6_paper := fun w h => List.mem_cons_of_mem _ (List.mem_append_right _ h)
  have hH0 : s.heap = s.heap := rfl
  have L59 := hts (.fieldLink RX6 59 "AnvilHouseModel" "isTested" "[Z") (by decide +kernel)
  have L53 := hts (.fieldLink RX6 53 "AnvilHouseModel" "load" "[I") (by decide +kernel)
  have L46 := hts (.fieldLink RX6 46 "AnvilHouseModel" "hasCrack" "[Z") (by decide +kernel)
  have L43 := hts (.fieldLink RX6 43 "AnvilHouseModel" "laps" "[I") (by decide +kernel)
  have L74 := hts (.fieldLink RX6 74 "AnvilHouseModel" "hasPiece" "[Z") (by decide +kernel)
  have L22 := hts (.fieldLink RX6 22 "AnvilHouseModel" "meltOf" "[I") (by decide +kernel)
  have hl9 : lv_has sl9 4 [(0, .ref o), (1, .int (nI (i))), (2, .int (w))] := hl9
  refine lv_aload_n hx hb dX6_paper_0 rfl (lv_at hl9 0 rfl) ?_
  refine lv_aload_n hx hb dX6_paper_1 rfl (lv_at hl9 0 rfl) ?_
  refine lv_iload_n hx hb dX6_paper_2 rfl (lv_at hl9 1 rfl) ?_
  refine z_callAi (As := [.int (nI (i))]) (rest := [.ref o]) (rv := bin (nI (i)) 0 (σ 5 0 - 1)) (wc' := mW o ad T σ) Z Mz9 (cm_isBillet l D T o ad (σ) (nI (i))) (cwV 1 hts gX6_paper_X6_isBillet rfl rfl rfl (by decide +kernel) ⟨by decide, by decide⟩) (va_recv Z.2.1 Mz9.1 (ci := 7) (q0 := 0) rfl rfl) rfl hl9.1 (Nat.le_of_ble_eq_true rfl) dX6_paper_3 ⟨by decide, by decide⟩ rfl (fun Hp9 lc9 Mz9 => ?_)
  refine zn_top (y := 1) (h1) ?_
  refine lv_iload_n hx hb dX6_paper_6 rfl (lv_at hl9 2 rfl) ?_
  refine lv_iconst (v := 0) hx hb dX6_paper_7 (by decide) ?_
  refine lv_bipush (v := 70) hx hb dX6_paper_8 (by decide) ?_
  refine z_callSi (As := [.int (w), .int 0, .int 70]) (rest := [.int 1, .ref o]) Z.1 (cm_in l (w) (0) (70)) (va_cwS 3 hts gX6_paper_X6_in rfl rfl rfl (by decide +kernel) ⟨by decide, by decide⟩) rfl hl9.1 (Nat.le_of_ble_eq_true rfl) dX6_paper_10 ⟨by decide, by decide⟩ rfl ?_
  refine zn_top (y := 1) (h2) ?_
  refine lv_iconst (v := 1) hx hb dX6_paper_13 (by decide) ?_
  refine z_callAi (As := [.int 1, .int 1, .int 1]) (rest := []) (rv := if gth (1) (1) (1) = 0 then 1 else 0) (wc' := mW o ad T (upS σ 31 (fun _ => 0))) Z Mz9 (cm_goes l D T o ad (σ) (1) (1) (1)) (cwV 3 hts gX6_paper_X6_goes rfl rfl rfl (by decide +kernel) ⟨by decide, by decide⟩) (va_recv Z.2.1 Mz9.1 (ci := 7) (q0 := 0) rfl rfl) rfl hl9.1 (Nat.le_of_ble_eq_true rfl) dX6_paper_14 ⟨by decide, by decide⟩ rfl (fun Hp9 lc9 Mz9 => ?_)
  refine zn_top (y := 1) (by decide) ?_
  refine lv_if_ne (tgt := 22) hx hb dX6_paper_17 (by decide) (fun _ => ?_) (fun h => absurd h (by decide))
  refine lv_aload_n hx hb dX6_paper_22 rfl (lv_at hl9 0 rfl) ?_
  refine z_getf Z Mz9 hin6 0 rfl rfl 18 (by decide) L59 rfl (v := .ref (ad 18)) rfl dX6_paper_23 ?_
  refine lv_iload_n hx hb dX6_paper_26 rfl (lv_at hl9 1 rfl) ?_
  refine z_zald Z Mz9 17 (h0 := ad 18) (n := 12) (f := σ 18) rfl (j := i) (by omega) (by decide) dX6_paper_27 ?_
  refine lv_if_ne (tgt := 72) hx hb dX6_paper_28 (by decide) (fun c_1 => ?_) (fun c_1 => ?_)
  ·
    refine lv_iconst (v := 0) hx hb dX6_paper_72 (by decide) ?_
    refine lv_istore_n (lv' := [(3, .int 0), (0, .ref o), (1, .int (nI (i))), (2, .int (w))]) hx hb dX6_paper_73 rfl hl9 (by decide) rfl (fun sl9 hl9 => ?_)
    refine lv_iload_n hx hb dX6_paper_74 rfl (lv_at hl9 0 rfl) ?_
    refine lv_if_eq (tgt := 111) hx hb dX6_paper_75 (by decide) (fun _ => ?_) (fun h => absurd h (by decide))
    refine lv_iconst (v := (-1)) hx hb dX6_paper_111 (by decide) ?_
    exact hret _ _ _ _ _ sl9 _ _ Mz9 (rfl) (by simp only [if_neg c_1]) (rfl) (Nat.le_refl _) (Nat.le_refl _) dX6_paper_112
  ·
    refine lv_aload_n hx hb dX6_paper_31 rfl (lv_at hl9 0 rfl) ?_
    refine z_getf Z Mz9 hin6 0 rfl rfl 16 (by decide) L53 rfl (v := .ref (ad 16)) rfl dX6_paper_32 ?_
    refine lv_iload_n hx hb dX6_paper_35 rfl (lv_at hl9 1 rfl) ?_
    refine z_iald Z Mz9 15 (h0 := ad 16) (n := 12) (f := σ 16) rfl (j := i) (by omega) (by decide) dX6_paper_36 ?_
    refine zn_top (y := nI (ld)) (h3) ?_
    refine lv_iconst (v := (-1)) hx hb dX6_paper_37 (by decide) ?_
    refine lv_icmp_eq (tgt := 72) hx hb dX6_paper_38 (by decide) (fun h => absurd h (nI_nm1 (by omega))) (fun _ => ?_)
    refine lv_aload_n hx hb dX6_paper_41 rfl (lv_at hl9 0 rfl) ?_
    refine z_getf Z Mz9 hin6 0 rfl rfl 14 (by decide) L46 rfl (v := .ref (ad 14)) rfl dX6_paper_42 ?_
    refine lv_iload_n hx hb dX6_paper_45 rfl (lv_at hl9 1 rfl) ?_
    refine z_zald Z Mz9 13 (h0 := ad 14) (n := 12) (f := σ 14) rfl (j := i) (by omega) (by decide) dX6_paper_46 ?_
    refine lv_if_ne (tgt := 72) hx hb dX6_paper_47 (by decide) (fun c_2 => ?_) (fun c_2 => ?_)
    ·
      refine lv_iconst (v := 0) hx hb dX6_paper_72 (by decide) ?_
      refine lv_istore_n (lv' := [(3, .int 0), (0, .ref o), (1, .int (nI (i))), (2, .int (w))]) hx hb dX6_paper_73 rfl hl9 (by decide) rfl (fun sl9 hl9 => ?_)
      refine lv_iload_n hx hb dX6_paper_74 rfl (lv_at hl9 0 rfl) ?_
      refine lv_if_eq (tgt := 111) hx hb dX6_paper_75 (by decide) (fun _ => ?_) (fun h => absurd h (by decide))
      refine lv_iconst (v := (-1)) hx hb dX6_paper_111 (by decide) ?_
      exact hret _ _ _ _ _ sl9 _ _ Mz9 (rfl) (by simp only [if_pos c_1, if_neg c_2]) (rfl) (Nat.le_refl _) (Nat.le_refl _) dX6_paper_112
    ·
      refine lv_aload_n hx hb dX6_paper_50 rfl (lv_at hl9 0 rfl) ?_
      refine z_getf Z Mz9 hin6 0 rfl rfl 13 (by decide) L43 rfl (v := .ref (ad 13)) rfl dX6_paper_51 ?_
      refine lv_iload_n hx hb dX6_paper_54 rfl (lv_at hl9 1 rfl) ?_
      refine z_iald Z Mz9 12 (h0 := ad 13) (n := 12) (f := σ 13) rfl (j := i) (by omega) (by decide) dX6_paper_55 ?_
      refine lv_if_ne (tgt := 72) hx hb dX6_paper_56 (by decide) (fun c_3 => ?_) (fun c_3 => ?_)
      ·
        refine lv_iconst (v := 0) hx hb dX6_paper_72 (by decide) ?_
        refine lv_istore_n (lv' := [(3, .int 0), (0, .ref o), (1, .int (nI (i))), (2, .int (w))]) hx hb dX6_paper_73 rfl hl9 (by decide) rfl (fun sl9 hl9 => ?_)
        refine lv_iload_n hx hb dX6_paper_74 rfl (lv_at hl9 0 rfl) ?_
        refine lv_if_eq (tgt := 111) hx hb dX6_paper_75 (by decide) (fun _ => ?_) (fun h => absurd h (by decide))
        refine lv_iconst (v := (-1)) hx hb dX6_paper_111 (by decide) ?_
        exact hret _ _ _ _ _ sl9 _ _ Mz9 (rfl) (by simp only [if_pos c_1, if_pos c_2, if_neg c_3]) (rfl) (Nat.le_refl _) (Nat.le_refl _) dX6_paper_112
      ·
        refine lv_aload_n hx hb dX6_paper_59 rfl (lv_at hl9 0 rfl) ?_
        refine lv_iload_n hx hb dX6_paper_60 rfl (lv_at hl9 1 rfl) ?_
        refine z_callAi (As := [.int (nI (i))]) (rest := []) (rv := SF (fun j => (σ 8) (8 * i + j)) ((σ 17) i)) (wc' := mW o ad T (upS σ 31 (fun _ => 0))) Z Mz9 (cm_softest l D T o ad (upS σ 31 (fun _ => 0)) (i) (by omega)) (cwV 1 hts gX6_paper_X6_softest rfl rfl rfl (by decide +kernel) ⟨by decide, by decide⟩) (va_recv Z.2.1 Mz9.1 (ci := 7) (q0 := 0) rfl rfl) rfl hl9.1 (Nat.le_of_ble_eq_true rfl) dX6_paper_61 ⟨by decide, by decide⟩ rfl (fun Hp9 lc9 Mz9 => ?_)
        refine lv_iload_n hx hb dX6_paper_64 rfl (lv_at hl9 2 rfl) ?_
        refine lv_icmp_lt (tgt := 72) hx hb dX6_paper_65 (by decide) (fun c_4 => ?_) (fun c_4 => ?_)
        ·
          refine lv_iconst (v := 0) hx hb dX6_paper_72 (by decide) ?_
          refine lv_istore_n (lv' := [(3, .int 0), (0, .ref o), (1, .int (nI (i))), (2, .int (w))]) hx hb dX6_paper_73 rfl hl9 (by decide) rfl (fun sl9 hl9 => ?_)
          refine lv_iload_n hx hb dX6_paper_74 rfl (lv_at hl9 0 rfl) ?_
          refine lv_if_eq (tgt := 111) hx hb dX6_paper_75 (by decide) (fun _ => ?_) (fun h => absurd h (by decide))
          refine lv_iconst (v := (-1)) hx hb dX6_paper_111 (by decide) ?_
          exact hret _ _ _ _ _ sl9 _ _ Mz9 (rfl) (by simp only [if_pos c_1, if_pos c_2, if_pos c_3, if_pos c_4]) (rfl) (Nat.le_refl _) (Nat.le_refl _) dX6_paper_112
        ·
          refine lv_iconst (v := 1) hx hb dX6_paper_68 (by decide) ?_
          refine lv_goto (tgt := 73) hx hb dX6_paper_69 (by decide) ?_
          refine lv_istore_n (lv' := [(3, .int 1), (0, .ref o), (1, .int (nI (i))), (2, .int (w))]) hx hb dX6_paper_73 rfl hl9 (by decide) rfl (fun sl9 hl9 => ?_)
          refine lv_iload_n hx hb dX6_paper_74 rfl (lv_at hl9 0 rfl) ?_
          refine lv_if_eq (tgt := 111) hx hb dX6_paper_75 (by decide) (fun h => absurd h (by decide)) (fun _ => ?_)
          refine lv_aload_n hx hb dX6_paper_78 rfl (lv_at hl9 1 rfl) ?_
          refine z_getf Z Mz9 hin6 0 rfl rfl 25 (by decide) L74 rfl (v := .ref (ad 25)) rfl dX6_paper_79 ?_
          refine lv_bipush (v := 20) hx hb dX6_paper_82 (by decide) ?_
          refine lv_aload_n hx hb dX6_paper_84 rfl (lv_at hl9 1 rfl) ?_
          refine z_getf Z Mz9 hin6 0 rfl rfl 16 (by decide) L53 rfl (v := .ref (ad 16)) rfl dX6_paper_85 ?_
          refine lv_iload_n hx hb dX6_paper_88 rfl (lv_at hl9 2 rfl) ?_
          refine z_iald Z Mz9 15 (h0 := ad 16) (n := 12) (f := σ 16) rfl (j := i) (by omega) (by decide) dX6_paper_89 ?_
          refine zn_top (y := nI (ld)) (h3) ?_
          refine zn_imul (a := 20) (b := ld) hx hb dX6_paper_90 ?_
          refine lv_aload_n hx hb dX6_paper_91 rfl (lv_at hl9 1 rfl) ?_
          refine z_getf Z Mz9 hin6 0 rfl rfl 6 (by decide) L22 rfl (v := .ref (ad 6)) rfl dX6_paper_92 ?_
          refine lv_iload_n hx hb dX6_paper_95 rfl (lv_at hl9 2 rfl) ?_
          refine z_iald Z Mz9 5 (h0 := ad 6) (n := 12) (f := σ 6) rfl (j := i) (by omega) (by decide) dX6_paper_96 ?_
          refine zn_top (y := nI (mo)) (h6) ?_
          refine zn_iadd (a := 20 * ld) (b := mo) hx hb dX6_paper_97 ?_
          refine z_zald Z Mz9 22 (h0 := ad 25) (n := 400) (f := σ 25) rfl (j := (20 * ld) + mo) (by omega) (by decide) dX6_paper_98 ?_
          refine lv_if_eq (tgt := 111) hx hb dX6_paper_99 (by decide) (fun c_5 => ?_) (fun c_5 => ?_)
          ·
            refine lv_iconst (v := (-1)) hx hb dX6_paper_111 (by decide) ?_
            exact hret _ _ _ _ _ sl9 _ _ Mz9 (rfl) (by simp only [if_pos c_1, if_pos c_2, if_pos c_3, if_neg c_4, if_pos c_5]) (rfl) (Nat.le_refl _) (Nat.le_refl _) dX6_paper_112
          ·
            refine lv_aload_n hx hb dX6_paper_102 rfl (lv_at hl9 1 rfl) ?_
            refine z_getf Z Mz9 hin6 0 rfl rfl 6 (by decide) L22 rfl (v := .ref (ad 6)) rfl dX6_paper_103 ?_
            refine lv_iload_n hx hb dX6_paper_106 rfl (lv_at hl9 2 rfl) ?_
            refine z_iald Z Mz9 5 (h0 := ad 6) (n := 12) (f := σ 6) rfl (j := i) (by omega) (by decide) dX6_paper_107 ?_
            refine zn_top (y := nI (mo)) (h6) ?_
            refine lv_goto (tgt := 112) hx hb dX6_paper_108 (by decide) ?_
            exact hret _ _ _ _ _ sl9 _ _ Mz9 (rfl) (by simp only [if_pos c_1, if_pos c_2, if_pos c_3, if_neg c_4, if_neg c_5]) (rfl) (Nat.le_refl _) (Nat.le_refl _) dX6_paper_112
set_option maxHeartbeats 4000000 in
set_option maxRecDepth 100000 in
theorem cm_layer_b1 (l : Launch) (D : va_G) (T : Nat → ClassId) (o : Nat) (ad : Nat → Nat) (σ : Nat → Nat → Int32) (b t : Int32) (hB : bin (b) 0 (σ 5 0 - 1) = 0) : ZI l yX6_layer wsX6_layer (zrm 2 43) D T (mW o ad T σ) (mW o ad T (upS σ 31 (fun _ => 1))) [.ref o, .int (b), .int (t)] (0) 0 0 := by
  refine z_inI (cc := cX6_layer) (maxL := 4) (rt := .int) (by decide +kernel) rfl (Nat.le_of_ble_eq_true rfl) ?_
  intro p e s m args below meth c sl9 A Q Z hnm Mz9 hl9 hret
  have Z : zC p s m args c cX6_layer 4 RX6 wsX6_layer D T A := Z
  have hx := Z.1.1
  have hb := Z.1.2.1
  have hts := Z.1.2.2.2.2
  have hin6 : ∀ w ∈ wsX60, w ∈ wsX6_layer := fun w h => List.mem_cons_of_mem _ (List.mem_append_right _ h)
  have hH0 : s.heap = s.heap := rfl
  have L34 := hts (.fieldLink RX6 34 "AnvilHouseModel" "core" "[I") (by decide +kernel)
  have L50 := hts (.fieldLink RX6 50 "AnvilHouseModel" "layers" "[I") (by decide +kernel)
  have hl9 : lv_has sl9 4 [(0, .ref o), (1, .int (b)), (2, .int (t))] := hl9
  refine lv_aload_n hx hb dX6_layer_0 rfl (lv_at hl9 0 rfl) ?_
  refine lv_iload_n hx hb dX6_layer_1 rfl (lv_at hl9 1 rfl) ?_
  refine z_callAi (As := [.int (b)]) (rest := []) (rv := bin (b) 0 (σ 5 0 - 1)) (wc' := mW o ad T σ) Z Mz9 (cm_isBillet l D T o ad (σ) (b)) (cwV 1 hts gX6_layer_X6_isBillet rfl rfl rfl (by decide +kernel) ⟨by decide, by decide⟩) (va_recv Z.2.1 Mz9.1 (ci := 7) (q0 := 0) rfl rfl) rfl hl9.1 (Nat.le_of_ble_eq_true rfl) dX6_layer_2 ⟨by decide, by decide⟩ rfl (fun Hp9 lc9 Mz9 => ?_)
  refine zn_top (y := 0) (hB) ?_
  refine lv_istore_n (lv' := [(3, .int 0), (0, .ref o), (1, .int (b)), (2, .int (t))]) hx hb dX6_layer_5 rfl hl9 (by decide) rfl (fun sl9 hl9 => ?_)
  refine lv_aload_n hx hb dX6_layer_6 rfl (lv_at hl9 1 rfl) ?_
  refine lv_iload_n hx hb dX6_layer_7 rfl (lv_at hl9 0 rfl) ?_
  refine lv_iload_n hx hb dX6_layer_8 rfl (lv_at hl9 3 rfl) ?_
  refine lv_iconst (v := 0) hx hb dX6_layer_9 (by decide) ?_
  refine lv_iconst (v := 2) hx hb dX6_layer_10 (by decide) ?_
  refine z_callSi (As := [.int (t), .int 0, .int 2]) (rest := [.int 0, .ref o]) Z.1 (cm_in l (t) (0) (2)) (va_cwS 3 hts gX6_layer_X6_in rfl rfl rfl (by decide +kernel) ⟨by decide, by decide⟩) rfl hl9.1 (Nat.le_of_ble_eq_true rfl) dX6_layer_11 ⟨by decide, by decide⟩ rfl ?_
  refine lv_iload_n hx hb dX6_layer_14 rfl (lv_at hl9 0 rfl) ?_
  refine lv_if_eq (tgt := 42) hx hb dX6_layer_15 (by decide) (fun _ => ?_) (fun h => absurd h (by decide))
  refine lv_iconst (v := 0) hx hb dX6_layer_42 (by decide) ?_
  refine z_callAi (As := [.int 0, .int (bin (t) (0) (2)), .int 0]) (rest := []) (rv := if gth (0) (bin (t) (0) (2)) (0) = 0 then 1 else 0) (wc' := mW o ad T (upS σ 31 (fun _ => gth (0) (bin (t) (0) (2)) (0)))) Z Mz9 (cm_goes l D T o ad (σ) (0) (bin (t) (0) (2)) (0)) (cwV 3 hts gX6_layer_X6_goes rfl rfl rfl (by decide +kernel) ⟨by decide, by decide⟩) (va_recv Z.2.1 Mz9.1 (ci := 7) (q0 := 0) rfl rfl) rfl hl9.1 (Nat.le_of_ble_eq_true rfl) dX6_layer_43 ⟨by decide, by decide⟩ rfl (fun Hp9 lc9 Mz9 => ?_)
  refine zn_top (y := 0) (by rw [gth_1]; rfl) ?_
  refine lv_if_ne (tgt := 51) hx hb dX6_layer_46 (by decide) (fun h => absurd h (by decide)) (fun _ => ?_)
  refine lv_iconst (v := 0) hx hb dX6_layer_49 (by decide) ?_
  exact hret _ _ _ _ _ sl9 _ _ Mz9 (by rw [gth_1]) (rfl) (rfl) (Nat.le_refl _) (Nat.le_refl _) dX6_layer_50
set_option maxHeartbeats 4000000 in
set_option maxRecDepth 100000 in
theorem cm_layer_b2 (l : Launch) (D : va_G) (T : Nat → ClassId) (o : Nat) (ad : Nat → Nat) (σ : Nat → Nat → Int32) (i : Nat) (t : Int32) (hi : i < 12) (h1 : bin (nI i) 0 (σ 5 0 - 1) = 1) (hg : ¬ gth (1) (bin (t) (0) (2)) (if σ 10 i < 900 then 0 else 1) = 0) : ZI l yX6_layer wsX6_layer (zrm 2 43) D T (mW o ad T σ) (mW o ad T (upS σ 31 (fun _ => gth (1) (bin (t) (0) (2)) (if σ 10 i < 900 then 0 else 1)))) [.ref o, .int (nI (i)), .int (t)] (0) 0 0 := by
  refine z_inI (cc := cX6_layer) (maxL := 4) (rt := .int) (by decide +kernel) rfl (Nat.le_of_ble_eq_true rfl) ?_
  intro p e s m args below meth c sl9 A Q Z hnm Mz9 hl9 hret
  have Z : zC p s m args c cX6_layer 4 RX6 wsX6_layer D T A := Z
  have hx := Z.1.1
  have hb := Z.1.2.1
  have hts := Z.1.2.2.2.2
  have hin6 : ∀ w ∈ wsX60, w ∈ wsX6_layer := fun w h => List.mem_cons_of_mem _ (List.mem_append_right _ h)
  have hH0 : s.heap = s.heap := rfl
  have L34 := hts (.fieldLink RX6 34 "AnvilHouseModel" "core" "[I") (by decide +kernel)
  have L50 := hts (.fieldLink RX6 50 "AnvilHouseModel" "layers" "[I") (by decide +kernel)
  have hl9 : lv_has sl9 4 [(0, .ref o), (1, .int (nI (i))), (2, .int (t))] := hl9
  refine lv_aload_n hx hb dX6_layer_0 rfl (lv_at hl9 0 rfl) ?_
  refine lv_iload_n hx hb dX6_layer_1 rfl (lv_at hl9 1 rfl) ?_
  refine z_callAi (As := [.int (nI (i))]) (rest := []) (rv := bin (nI (i)) 0 (σ 5 0 - 1)) (wc' := mW o ad T σ) Z Mz9 (cm_isBillet l D T o ad (σ) (nI (i))) (cwV 1 hts gX6_layer_X6_isBillet rfl rfl rfl (by decide +kernel) ⟨by decide, by decide⟩) (va_recv Z.2.1 Mz9.1 (ci := 7) (q0 := 0) rfl rfl) rfl hl9.1 (Nat.le_of_ble_eq_true rfl) dX6_layer_2 ⟨by decide, by decide⟩ rfl (fun Hp9 lc9 Mz9 => ?_)
  refine zn_top (y := 1) (h1) ?_
  refine lv_istore_n (lv' := [(3, .int 1), (0, .ref o), (1, .int (nI (i))), (2, .int (t))]) hx hb dX6_layer_5 rfl hl9 (by decide) rfl (fun sl9 hl9 => ?_)
  refine lv_aload_n hx hb dX6_layer_6 rfl (lv_at hl9 1 rfl) ?_
  refine lv_iload_n hx hb dX6_layer_7 rfl (lv_at hl9 0 rfl) ?_
  refine lv_iload_n hx hb dX6_layer_8 rfl (lv_at hl9 3 rfl) ?_
  refine lv_iconst (v := 0) hx hb dX6_layer_9 (by decide) ?_
  refine lv_iconst (v := 2) hx hb dX6_layer_10 (by decide) ?_
  refine z_callSi (As := [.int (t), .int 0, .int 2]) (rest := [.int 1, .ref o]) Z.1 (cm_in l (t) (0) (2)) (va_cwS 3 hts gX6_layer_X6_in rfl rfl rfl (by decide +kernel) ⟨by decide, by decide⟩) rfl hl9.1 (Nat.le_of_ble_eq_true rfl) dX6_layer_11 ⟨by decide, by decide⟩ rfl ?_
  refine lv_iload_n hx hb dX6_layer_14 rfl (lv_at hl9 0 rfl) ?_
  refine lv_if_eq (tgt := 42) hx hb dX6_layer_15 (by decide) (fun h => absurd h (by decide)) (fun _ => ?_)
  refine lv_aload_n hx hb dX6_layer_18 rfl (lv_at hl9 1 rfl) ?_
  refine z_getf Z Mz9 hin6 0 rfl rfl 10 (by decide) L34 rfl (v := .ref (ad 10)) rfl dX6_layer_19 ?_
  refine lv_iload_n hx hb dX6_layer_22 rfl (lv_at hl9 0 rfl) ?_
  refine lv_if_eq (tgt := 30) hx hb dX6_layer_23 (by decide) (fun h => absurd h (by decide)) (fun _ => ?_)
  refine lv_iload_n hx hb dX6_layer_26 rfl (lv_at hl9 2 rfl) ?_
  refine lv_goto (tgt := 31) hx hb dX6_layer_27 (by decide) ?_
  refine z_iald Z Mz9 9 (h0 := ad 10) (n := 12) (f := σ 10) rfl (j := i) (by omega) (by decide) dX6_layer_31 ?_
  refine lv_sipush (v := 900) hx hb dX6_layer_32 (by decide) ?_
  refine lv_icmp_lt (tgt := 42) hx hb dX6_layer_35 (by decide) (fun c_1 => ?_) (fun c_1 => ?_)
  ·
    refine lv_iconst (v := 0) hx hb dX6_layer_42 (by decide) ?_
    refine z_callAi (As := [.int 1, .int (bin (t) (0) (2)), .int 0]) (rest := []) (rv := if gth (1) (bin (t) (0) (2)) (0) = 0 then 1 else 0) (wc' := mW o ad T (upS σ 31 (fun _ => gth (1) (bin (t) (0) (2)) (0)))) Z Mz9 (cm_goes l D T o ad (σ) (1) (bin (t) (0) (2)) (0)) (cwV 3 hts gX6_layer_X6_goes rfl rfl rfl (by decide +kernel) ⟨by decide, by decide⟩) (va_recv Z.2.1 Mz9.1 (ci := 7) (q0 := 0) rfl rfl) rfl hl9.1 (Nat.le_of_ble_eq_true rfl) dX6_layer_43 ⟨by decide, by decide⟩ rfl (fun Hp9 lc9 Mz9 => ?_)
    refine zn_top (y := 0) (by have h := hg; simp only [if_pos c_1] at h; exact if_neg h) ?_
    refine lv_if_ne (tgt := 51) hx hb dX6_layer_46 (by decide) (fun h => absurd h (by decide)) (fun _ => ?_)
    refine lv_iconst (v := 0) hx hb dX6_layer_49 (by decide) ?_
    exact hret _ _ _ _ _ sl9 _ _ Mz9 (by simp only [if_pos c_1] <;> rfl) (rfl) (rfl) (Nat.le_refl _) (Nat.le_refl _) dX6_layer_50
  ·
    refine lv_iconst (v := 1) hx hb dX6_layer_38 (by decide) ?_
    refine lv_goto (tgt := 43) hx hb dX6_layer_39 (by decide) ?_
    refine z_callAi (As := [.int 1, .int (bin (t) (0) (2)), .int 1]) (rest := []) (rv := if gth (1) (bin (t) (0) (2)) (1) = 0 then 1 else 0) (wc' := mW o ad T (upS σ 31 (fun _ => gth (1) (bin (t) (0) (2)) (1)))) Z Mz9 (cm_goes l D T o ad (σ) (1) (bin (t) (0) (2)) (1)) (cwV 3 hts gX6_layer_X6_goes rfl rfl rfl (by decide +kernel) ⟨by decide, by decide⟩) (va_recv Z.2.1 Mz9.1 (ci := 7) (q0 := 0) rfl rfl) rfl hl9.1 (Nat.le_of_ble_eq_true rfl) dX6_layer_43 ⟨by decide, by decide⟩ rfl (fun Hp9 lc9 Mz9 => ?_)
    refine zn_top (y := 0) (by have h := hg; simp only [if_neg c_1] at h; exact if_neg h) ?_
    refine lv_if_ne (tgt := 51) hx hb dX6_layer_46 (by decide) (fun h => absurd h (by decide)) (fun _ => ?_)
    refine lv_iconst (v := 0) hx hb dX6_layer_49 (by decide) ?_
    exact hret _ _ _ _ _ sl9 _ _ Mz9 (by simp only [if_neg c_1] <;> rfl) (rfl) (rfl) (Nat.le_refl _) (Nat.le_refl _) dX6_layer_50
set_option maxHeartbeats 4000000 in
set_option maxRecDepth 100000 in
theorem cm_layer_ok (l : Launch) (D : va_G) (T : Nat → ClassId) (o : Nat) (ad : Nat → Nat) (σ : Nat → Nat → Int32) (i a q : Nat) (hi : i < 12) (ha : a < 3) (h1 : bin (nI i) 0 (σ 5 0 - 1) = 1) (h2 : bin (nI a) 0 2 = 1) (h3 : ¬ σ 10 i < 900) (h15 : σ 15 i = nI q) : ZI l yX6_layer wsX6_layer (zrm 2 43) D T (mW o ad T σ) (mW o ad T (upS (upS σ 15 (upd (σ 15) i (AC (nI q) a))) 31 (fun _ => 0))) [.ref o, .int (nI (i)), .int (nI (a))] (AC (nI q) a) 0 0 := by
  refine z_inI (cc := cX6_layer) (maxL := 4) (rt := .int) (by decide +kernel) rfl (Nat.le_of_ble_eq_true rfl) ?_
  intro p e s m args below meth c sl9 A Q Z hnm Mz9 hl9 hret
  have Z : zC p s m args c cX6_layer 4 RX6 wsX6_layer D T A := Z
  have hx := Z.1.1
  have hb := Z.1.2.1
  have hts := Z.1.2.2.2.2
  have hin6 : ∀ w ∈ wsX60, w ∈ wsX6_layer := fun w h => List.mem_cons_of_mem _ (List.mem_append_right _ h)
  have hH0 : s.heap = s.heap := rfl
  have L34 := hts (.fieldLink RX6 34 "AnvilHouseModel" "core" "[I") (by decide +kernel)
  have L50 := hts (.fieldLink RX6 50 "AnvilHouseModel" "layers" "[I") (by decide +kernel)
  have hl9 : lv_has sl9 4 [(0, .ref o), (1, .int (nI (i))), (2, .int (nI (a)))] := hl9
  refine lv_aload_n hx hb dX6_layer_0 rfl (lv_at hl9 0 rfl) ?_
  refine lv_iload_n hx hb dX6_layer_1 rfl (lv_at hl9 1 rfl) ?_
  refine z_callAi (As := [.int (nI (i))]) (rest := []) (rv := bin (nI (i)) 0 (σ 5 0 - 1)) (wc' := mW o ad T σ) Z Mz9 (cm_isBillet l D T o ad (σ) (nI (i))) (cwV 1 hts gX6_layer_X6_isBillet rfl rfl rfl (by decide +kernel) ⟨by decide, by decide⟩) (va_recv Z.2.1 Mz9.1 (ci := 7) (q0 := 0) rfl rfl) rfl hl9.1 (Nat.le_of_ble_eq_true rfl) dX6_layer_2 ⟨by decide, by decide⟩ rfl (fun Hp9 lc9 Mz9 => ?_)
  refine zn_top (y := 1) (h1) ?_
  refine lv_istore_n (lv' := [(3, .int 1), (0, .ref o), (1, .int (nI (i))), (2, .int (nI (a)))]) hx hb dX6_layer_5 rfl hl9 (by decide) rfl (fun sl9 hl9 => ?_)
  refine lv_aload_n hx hb dX6_layer_6 rfl (lv_at hl9 1 rfl) ?_
  refine lv_iload_n hx hb dX6_layer_7 rfl (lv_at hl9 0 rfl) ?_
  refine lv_iload_n hx hb dX6_layer_8 rfl (lv_at hl9 3 rfl) ?_
  refine lv_iconst (v := 0) hx hb dX6_layer_9 (by decide) ?_
  refine lv_iconst (v := 2) hx hb dX6_layer_10 (by decide) ?_
  refine z_callSi (As := [.int (nI (a)), .int 0, .int 2]) (rest := [.int 1, .ref o]) Z.1 (cm_in l (nI (a)) (0) (2)) (va_cwS 3 hts gX6_layer_X6_in rfl rfl rfl (by decide +kernel) ⟨by decide, by decide⟩) rfl hl9.1 (Nat.le_of_ble_eq_true rfl) dX6_layer_11 ⟨by decide, by decide⟩ rfl ?_
  refine zn_top (y := 1) (h2) ?_
  refine lv_iload_n hx hb dX6_layer_14 rfl (lv_at hl9 0 rfl) ?_
  refine lv_if_eq (tgt := 42) hx hb dX6_layer_15 (by decide) (fun h => absurd h (by decide)) (fun _ => ?_)
  refine lv_aload_n hx hb dX6_layer_18 rfl (lv_at hl9 1 rfl) ?_
  refine z_getf Z Mz9 hin6 0 rfl rfl 10 (by decide) L34 rfl (v := .ref (ad 10)) rfl dX6_layer_19 ?_
  refine lv_iload_n hx hb dX6_layer_22 rfl (lv_at hl9 0 rfl) ?_
  refine lv_if_eq (tgt := 30) hx hb dX6_layer_23 (by decide) (fun h => absurd h (by decide)) (fun _ => ?_)
  refine lv_iload_n hx hb dX6_layer_26 rfl (lv_at hl9 2 rfl) ?_
  refine lv_goto (tgt := 31) hx hb dX6_layer_27 (by decide) ?_
  refine z_iald Z Mz9 9 (h0 := ad 10) (n := 12) (f := σ 10) rfl (j := i) (by omega) (by decide) dX6_layer_31 ?_
  refine lv_sipush (v := 900) hx hb dX6_layer_32 (by decide) ?_
  refine lv_icmp_lt (tgt := 42) hx hb dX6_layer_35 (by decide) (fun h => absurd h (h3)) (fun _ => ?_)
  refine lv_iconst (v := 1) hx hb dX6_layer_38 (by decide) ?_
  refine lv_goto (tgt := 43) hx hb dX6_layer_39 (by decide) ?_
  refine z_callAi (As := [.int 1, .int 1, .int 1]) (rest := []) (rv := if gth (1) (1) (1) = 0 then 1 else 0) (wc' := mW o ad T (upS σ 31 (fun _ => 0))) Z Mz9 (cm_goes l D T o ad (σ) (1) (1) (1)) (cwV 3 hts gX6_layer_X6_goes rfl rfl rfl (by decide +kernel) ⟨by decide, by decide⟩) (va_recv Z.2.1 Mz9.1 (ci := 7) (q0 := 0) rfl rfl) rfl hl9.1 (Nat.le_of_ble_eq_true rfl) dX6_layer_43 ⟨by decide, by decide⟩ rfl (fun Hp9 lc9 Mz9 => ?_)
  refine zn_top (y := 1) (by decide) ?_
  refine lv_if_ne (tgt := 51) hx hb dX6_layer_46 (by decide) (fun _ => ?_) (fun h => absurd h (by decide))
  refine lv_aload_n hx hb dX6_layer_51 rfl (lv_at hl9 1 rfl) ?_
  refine z_getf Z Mz9 hin6 0 rfl rfl 15 (by decide) L50 rfl (v := .ref (ad 15)) rfl dX6_layer_52 ?_
  refine lv_iload_n hx hb dX6_layer_55 rfl (lv_at hl9 2 rfl) ?_
  refine lv_aload_n hx hb dX6_layer_56 rfl (lv_at hl9 1 rfl) ?_
  refine z_getf Z Mz9 hin6 0 rfl rfl 15 (by decide) L50 rfl (v := .ref (ad 15)) rfl dX6_layer_57 ?_
  refine lv_iload_n hx hb dX6_layer_60 rfl (lv_at hl9 2 rfl) ?_
  refine z_iald Z Mz9 14 (h0 := ad 15) (n := 12) (f := σ 15) rfl (j := i) (by omega) (by decide) dX6_layer_61 ?_
  refine zn_top (y := nI (q)) (h15) ?_
  refine lv_iload_n hx hb dX6_layer_62 rfl (lv_at hl9 3 rfl) ?_
  refine z_callSi (As := [.int (nI (q)), .int (nI (a))]) (rest := [.int (nI (i)), .ref (ad 15)]) Z.1 (cm_acted l (nI (q)) (a) (by omega)) (va_cwS 2 hts gX6_layer_X6_acted rfl rfl rfl (by decide +kernel) ⟨by decide, by decide⟩) rfl hl9.1 (Nat.le_of_ble_eq_true rfl) dX6_layer_63 ⟨by decide, by decide⟩ rfl ?_
  refine z_iast Z Mz9 14 (h0 := ad 15) (n := 12) (f := σ 15) rfl (j := i) (x := AC (nI (q)) (a)) (by omega) (by decide) (ws' := mW o ad T (upS (upS σ 15 (upd (σ 15) i (AC (nI (q)) (a)))) 31 (fun _ => 0))) rfl dX6_layer_66 (fun Hp9 lc9 Mz9 => ?_)
  refine lv_aload_n hx hb dX6_layer_67 rfl (lv_at hl9 1 rfl) ?_
  refine z_getf Z Mz9 hin6 0 rfl rfl 15 (by decide) L50 rfl (v := .ref (ad 15)) rfl dX6_layer_68 ?_
  refine lv_iload_n hx hb dX6_layer_71 rfl (lv_at hl9 2 rfl) ?_
  refine z_iald Z Mz9 14 (h0 := ad 15) (n := 12) (f := upd (σ 15) i (AC (nI (q)) (a))) rfl (j := i) (by omega) (by decide) dX6_layer_72 ?_
  refine zn_top (y := AC (nI (q)) (a)) (upd_same _ _ _) ?_
  exact hret _ _ _ _ _ sl9 _ _ Mz9 (rfl) (rfl) (rfl) (Nat.le_refl _) (Nat.le_refl _) dX6_layer_73
