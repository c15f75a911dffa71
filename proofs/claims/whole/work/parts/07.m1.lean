/-! ===== laid by program ===== -/
set_option maxHeartbeats 4000000 in
set_option maxRecDepth 100000 in
theorem cm_in (l : Launch) (v lo hi : Int32) : ZS l yX6_in wsX6_in (zrm 0 0) [.int (v), .int (lo), .int (hi)] (bin v lo hi) := by
  refine z_inS (cc := cX6_in) (maxL := 3) (rt := .boolean) (by decide +kernel) rfl (Nat.le_of_ble_eq_true rfl) ?_
  intro p e s m args below meth c sl9 Q Z hl9 hret
  have Z : CallFix p m c cX6_in 3 s args wsX6_in RX6 := Z
  have hx := Z.1
  have hb := Z.2.1
  have hts := Z.2.2.2.2
  generalize hH : s.heap = Hp9 at hret ⊢
  have hl9 : lv_has sl9 3 [(0, .int (v)), (1, .int (lo)), (2, .int (hi))] := hl9
  refine lv_iload_n hx hb dX6_in_0 rfl (lv_at hl9 0 rfl) ?_
  refine lv_iload_n hx hb dX6_in_1 rfl (lv_at hl9 1 rfl) ?_
  refine lv_icmp_lt (tgt := 14) hx hb dX6_in_2 (by decide) (fun c_1 => ?_) (fun c_1 => ?_)
  ·
    refine lv_iconst (v := 0) hx hb dX6_in_14 (by decide) ?_
    exact hret _ sl9 _ (by simp only [bin, if_pos c_1]) (rfl) dX6_in_15
  ·
    refine lv_iload_n hx hb dX6_in_5 rfl (lv_at hl9 0 rfl) ?_
    refine lv_iload_n hx hb dX6_in_6 rfl (lv_at hl9 2 rfl) ?_
    refine lv_icmp_gt (tgt := 14) hx hb dX6_in_7 (by decide) (fun c_2 => ?_) (fun c_2 => ?_)
    ·
      refine lv_iconst (v := 0) hx hb dX6_in_14 (by decide) ?_
      exact hret _ sl9 _ (by simp only [bin, if_neg c_1, if_pos c_2]) (rfl) dX6_in_15
    ·
      refine lv_iconst (v := 1) hx hb dX6_in_10 (by decide) ?_
      refine lv_goto (tgt := 15) hx hb dX6_in_11 (by decide) ?_
      exact hret _ sl9 _ (by simp only [bin, if_neg c_1, if_neg c_2]) (rfl) dX6_in_15
set_option maxHeartbeats 4000000 in
set_option maxRecDepth 100000 in
theorem cm_least (l : Launch) (a b : Int32) : ZS l yX6_least wsX6_least (zrm 0 0) [.int (a), .int (b)] (imin a b) := by
  refine z_inS (cc := cX6_least) (maxL := 2) (rt := .int) (by decide +kernel) rfl (Nat.le_of_ble_eq_true rfl) ?_
  intro p e s m args below meth c sl9 Q Z hl9 hret
  have Z : CallFix p m c cX6_least 2 s args wsX6_least RX6 := Z
  have hx := Z.1
  have hb := Z.2.1
  have hts := Z.2.2.2.2
  generalize hH : s.heap = Hp9 at hret ⊢
  have hl9 : lv_has sl9 2 [(0, .int (a)), (1, .int (b))] := hl9
  refine lv_iload_n hx hb dX6_least_0 rfl (lv_at hl9 0 rfl) ?_
  refine lv_iload_n hx hb dX6_least_1 rfl (lv_at hl9 1 rfl) ?_
  refine lv_icmp_ge (tgt := 9) hx hb dX6_least_2 (by decide) (fun c_1 => ?_) (fun c_1 => ?_)
  ·
    refine lv_iload_n hx hb dX6_least_9 rfl (lv_at hl9 1 rfl) ?_
    exact hret _ sl9 _ (by simp only [imin, if_neg (Int32.not_lt.mpr c_1)]) (rfl) dX6_least_10
  ·
    refine lv_iload_n hx hb dX6_least_5 rfl (lv_at hl9 0 rfl) ?_
    refine lv_goto (tgt := 10) hx hb dX6_least_6 (by decide) ?_
    exact hret _ sl9 _ (by simp only [imin, if_pos (Int32.not_le.mp c_1)]) (rfl) dX6_least_10
set_option maxHeartbeats 4000000 in
set_option maxRecDepth 100000 in
theorem cm_isSection (l : Launch) (k : Int32) : ZS l yX6_isSection wsX6_isSection (zrm 1 22) [.int (k)] (bin k 0 7) := by
  refine z_inS (cc := cX6_isSection) (maxL := 1) (rt := .boolean) (by decide +kernel) rfl (Nat.le_of_ble_eq_true rfl) ?_
  intro p e s m args below meth c sl9 Q Z hl9 hret
  have Z : CallFix p m c cX6_isSection 1 s args wsX6_isSection RX6 := Z
  have hx := Z.1
  have hb := Z.2.1
  have hts := Z.2.2.2.2
  generalize hH : s.heap = Hp9 at hret ⊢
  have hl9 : lv_has sl9 1 [(0, .int (k))] := hl9
  refine lv_iload_n hx hb dX6_isSection_0 rfl (lv_at hl9 0 rfl) ?_
  refine lv_iconst (v := 0) hx hb dX6_isSection_1 (by decide) ?_
  refine lv_bipush (v := 7) hx hb dX6_isSection_2 (by decide) ?_
  refine z_callSi (As := [.int (k), .int 0, .int 7]) (rest := []) Z (cm_in l (k) (0) (7)) (va_cwS 3 hts gX6_isSection_X6_in rfl rfl rfl (by decide +kernel) ⟨by decide, by decide⟩) rfl hl9.1 (Nat.le_of_ble_eq_true rfl) dX6_isSection_4 ⟨by decide, by decide⟩ rfl ?_
  exact hret _ sl9 _ (rfl) (bin_n _ _ _) dX6_isSection_7
set_option maxHeartbeats 4000000 in
set_option maxRecDepth 100000 in
theorem cm_neighbour (l : Launch) (k : Nat) (hk : k < 8) : ZS l yX6_neighbour wsX6_neighbour (zrm 0 0) [.int (nI (k))] (nI (nbr k)) := by
  refine z_inS (cc := cX6_neighbour) (maxL := 1) (rt := .int) (by decide +kernel) rfl (Nat.le_of_ble_eq_true rfl) ?_
  intro p e s m args below meth c sl9 Q Z hl9 hret
  have Z : CallFix p m c cX6_neighbour 1 s args wsX6_neighbour RX6 := Z
  have hx := Z.1
  have hb := Z.2.1
  have hts := Z.2.2.2.2
  generalize hH : s.heap = Hp9 at hret ⊢
  have hl9 : lv_has sl9 1 [(0, .int (nI (k)))] := hl9
  refine lv_iload_n hx hb dX6_neighbour_0 rfl (lv_at hl9 0 rfl) ?_
  refine lv_bipush (v := 7) hx hb dX6_neighbour_1 (by decide) ?_
  refine zn_icmp_ne (a := k) (b := 7) (tgt := 12) (by omega) (by decide) hx hb dX6_neighbour_3 (by decide) (fun c_1 => ?_) (fun c_1 => ?_)
  ·
    refine lv_iload_n hx hb dX6_neighbour_12 rfl (lv_at hl9 0 rfl) ?_
    refine lv_iconst (v := 1) hx hb dX6_neighbour_13 (by decide) ?_
    refine zn_iadd (a := k) (b := 1) hx hb dX6_neighbour_14 ?_
    exact hret _ sl9 _ (by simp only [nbr, if_neg c_1]) (rfl) dX6_neighbour_15
  ·
    refine lv_iload_n hx hb dX6_neighbour_6 rfl (lv_at hl9 0 rfl) ?_
    refine lv_iconst (v := 1) hx hb dX6_neighbour_7 (by decide) ?_
    refine zn_isub (a := k) (b := 1) (by omega) hx hb dX6_neighbour_8 ?_
    refine lv_goto (tgt := 15) hx hb dX6_neighbour_9 (by decide) ?_
    exact hret _ sl9 _ (by simp only [nbr, if_pos c_1]) (rfl) dX6_neighbour_15
set_option maxHeartbeats 4000000 in
set_option maxRecDepth 100000 in
theorem cm_goes (l : Launch) (D : va_G) (T : Nat → ClassId) (o : Nat) (ad : Nat → Nat) (σ : Nat → Nat → Int32) (f s9 t : Int32) : ZI l yX6_goes wsX6_goes (zrm 0 0) D T (mW o ad T σ) (mW o ad T (upS σ 31 (fun _ => gth f s9 t))) [.ref o, .int (f), .int (s9), .int (t)] (if gth f s9 t = 0 then 1 else 0) 0 0 := by
  refine z_inI (cc := cX6_goes) (maxL := 4) (rt := .boolean) (by decide +kernel) rfl (Nat.le_of_ble_eq_true rfl) ?_
  intro p e s m args below meth c sl9 A Q Z hnm Mz9 hl9 hret
  have Z : zC p s m args c cX6_goes 4 RX6 wsX6_goes D T A := Z
  have hx := Z.1.1
  have hb := Z.1.2.1
  have hts := Z.1.2.2.2.2
  have hin6 : ∀ w ∈ wsX60, w ∈ wsX6_goes := fun w h => List.mem_cons_of_mem _ (List.mem_append_right _ h)
  have hH0 : s.heap = s.heap := rfl
  have L90 := hts (.fieldLink RX6 90 "AnvilHouseModel" "thrown" "I") (by decide +kernel)
  have hl9 : lv_has sl9 4 [(0, .ref o), (1, .int (f)), (2, .int (s9)), (3, .int (t))] := hl9
  refine lv_aload_n hx hb dX6_goes_0 rfl (lv_at hl9 0 rfl) ?_
  refine lv_iload_n hx hb dX6_goes_1 rfl (lv_at hl9 1 rfl) ?_
  refine lv_if_ne (tgt := 9) hx hb dX6_goes_2 (by decide) (fun c_1 => ?_) (fun c_1 => ?_)
  ·
    refine lv_iload_n hx hb dX6_goes_9 rfl (lv_at hl9 2 rfl) ?_
    refine lv_if_ne (tgt := 17) hx hb dX6_goes_10 (by decide) (fun c_2 => ?_) (fun c_2 => ?_)
    ·
      refine lv_iload_n hx hb dX6_goes_17 rfl (lv_at hl9 3 rfl) ?_
      refine lv_if_ne (tgt := 25) hx hb dX6_goes_18 (by decide) (fun c_3 => ?_) (fun c_3 => ?_)
      ·
        refine lv_iconst (v := 0) hx hb dX6_goes_25 (by decide) ?_
        refine z_putf Z Mz9 hin6 tyX6 tyX6_ok nmX6 0 rfl rfl 31 (by decide) L90 rfl rfl (ty := .int) rfl rfl rfl (Nat.le_of_ble_eq_true rfl) (ws' := mW o ad T (upS σ 31 (fun _ => 0))) rfl dX6_goes_26 (fun Hp9 lc9 Mz9 => ?_)
        refine lv_aload_n hx hb dX6_goes_29 rfl (lv_at hl9 0 rfl) ?_
        refine z_getf Z Mz9 hin6 0 rfl rfl 31 (by decide) L90 rfl (v := .int 0) rfl dX6_goes_30 ?_
        refine lv_if_ne (tgt := 40) hx hb dX6_goes_33 (by decide) (fun h => absurd h (by decide)) (fun _ => ?_)
        refine lv_iconst (v := 1) hx hb dX6_goes_36 (by decide) ?_
        refine lv_goto (tgt := 41) hx hb dX6_goes_37 (by decide) ?_
        exact hret _ _ _ _ _ sl9 _ _ Mz9 (by simp only [gth, if_neg c_1, if_neg c_2, if_neg c_3]) (by simp only [gth, if_neg c_1, if_neg c_2, if_neg c_3]; decide) (rfl) (Nat.le_refl _) (Nat.le_refl _) dX6_goes_41
      ·
        refine lv_iconst (v := 3) hx hb dX6_goes_21 (by decide) ?_
        refine lv_goto (tgt := 26) hx hb dX6_goes_22 (by decide) ?_
        refine z_putf Z Mz9 hin6 tyX6 tyX6_ok nmX6 0 rfl rfl 31 (by decide) L90 rfl rfl (ty := .int) rfl rfl rfl (Nat.le_of_ble_eq_true rfl) (ws' := mW o ad T (upS σ 31 (fun _ => 3))) rfl dX6_goes_26 (fun Hp9 lc9 Mz9 => ?_)
        refine lv_aload_n hx hb dX6_goes_29 rfl (lv_at hl9 0 rfl) ?_
        refine z_getf Z Mz9 hin6 0 rfl rfl 31 (by decide) L90 rfl (v := .int 3) rfl dX6_goes_30 ?_
        refine lv_if_ne (tgt := 40) hx hb dX6_goes_33 (by decide) (fun _ => ?_) (fun h => absurd h (by decide))
        refine lv_iconst (v := 0) hx hb dX6_goes_40 (by decide) ?_
        exact hret _ _ _ _ _ sl9 _ _ Mz9 (by simp only [gth, if_neg c_1, if_neg c_2, if_pos c_3]) (by simp only [gth, if_neg c_1, if_neg c_2, if_pos c_3]; decide) (rfl) (Nat.le_refl _) (Nat.le_refl _) dX6_goes_41
    ·
      refine lv_iconst (v := 2) hx hb dX6_goes_13 (by decide) ?_
      refine lv_goto (tgt := 26) hx hb dX6_goes_14 (by decide) ?_
      refine z_putf Z Mz9 hin6 tyX6 tyX6_ok nmX6 0 rfl rfl 31 (by decide) L90 rfl rfl (ty := .int) rfl rfl rfl (Nat.le_of_ble_eq_true rfl) (ws' := mW o ad T (upS σ 31 (fun _ => 2))) rfl dX6_goes_26 (fun Hp9 lc9 Mz9 => ?_)
      refine lv_aload_n hx hb dX6_goes_29 rfl (lv_at hl9 0 rfl) ?_
      refine z_getf Z Mz9 hin6 0 rfl rfl 31 (by decide) L90 rfl (v := .int 2) rfl dX6_goes_30 ?_
      refine lv_if_ne (tgt := 40) hx hb dX6_goes_33 (by decide) (fun _ => ?_) (fun h => absurd h (by decide))
      refine lv_iconst (v := 0) hx hb dX6_goes_40 (by decide) ?_
      exact hret _ _ _ _ _ sl9 _ _ Mz9 (by simp only [gth, if_neg c_1, if_pos c_2]) (by simp only [gth, if_neg c_1, if_pos c_2]; decide) (rfl) (Nat.le_refl _) (Nat.le_refl _) dX6_goes_41
  ·
    refine lv_iconst (v := 1) hx hb dX6_goes_5 (by decide) ?_
    refine lv_goto (tgt := 26) hx hb dX6_goes_6 (by decide) ?_
    refine z_putf Z Mz9 hin6 tyX6 tyX6_ok nmX6 0 rfl rfl 31 (by decide) L90 rfl rfl (ty := .int) rfl rfl rfl (Nat.le_of_ble_eq_true rfl) (ws' := mW o ad T (upS σ 31 (fun _ => 1))) rfl dX6_goes_26 (fun Hp9 lc9 Mz9 => ?_)
    refine lv_aload_n hx hb dX6_goes_29 rfl (lv_at hl9 0 rfl) ?_
    refine z_getf Z Mz9 hin6 0 rfl rfl 31 (by decide) L90 rfl (v := .int 1) rfl dX6_goes_30 ?_
    refine lv_if_ne (tgt := 40) hx hb dX6_goes_33 (by decide) (fun _ => ?_) (fun h => absurd h (by decide))
    refine lv_iconst (v := 0) hx hb dX6_goes_40 (by decide) ?_
    exact hret _ _ _ _ _ sl9 _ _ Mz9 (by simp only [gth, if_pos c_1]) (by simp only [gth, if_pos c_1]; decide) (rfl) (Nat.le_refl _) (Nat.le_refl _) dX6_goes_41
set_option maxHeartbeats 4000000 in
set_option maxRecDepth 100000 in
theorem cm_isBillet (l : Launch) (D : va_G) (T : Nat → ClassId) (o : Nat) (ad : Nat → Nat) (σ : Nat → Nat → Int32) (k : Int32) : ZI l yX6_isBillet wsX6_isBillet (zrm 1 22) D T (mW o ad T σ) (mW o ad T σ) [.ref o, .int (k)] (bin k 0 (σ 5 0 - 1)) 0 0 := by
  refine z_inI (cc := cX6_isBillet) (maxL := 2) (rt := .boolean) (by decide +kernel) rfl (Nat.le_of_ble_eq_true rfl) ?_
  intro p e s m args below meth c sl9 A Q Z hnm Mz9 hl9 hret
  have Z : zC p s m args c cX6_isBillet 2 RX6 wsX6_isBillet D T A := Z
  have hx := Z.1.1
  have hb := Z.1.2.1
  have hts := Z.1.2.2.2.2
  have hin6 : ∀ w ∈ wsX60, w ∈ wsX6_isBillet := fun w h => List.mem_cons_of_mem _ (List.mem_append_right _ h)
  have hH0 : s.heap = s.heap := rfl
  have L93 := hts (.fieldLink RX6 93 "AnvilHouseModel" "billets" "I") (by decide +kernel)
  have hl9 : lv_has sl9 2 [(0, .ref o), (1, .int (k))] := hl9
  refine lv_iload_n hx hb dX6_isBillet_0 rfl (lv_at hl9 1 rfl) ?_
  refine lv_iconst (v := 0) hx hb dX6_isBillet_1 (by decide) ?_
  refine lv_aload_n hx hb dX6_isBillet_2 rfl (lv_at hl9 0 rfl) ?_
  refine z_getf Z Mz9 hin6 0 rfl rfl 5 (by decide) L93 rfl (v := .int (σ 5 0)) rfl dX6_isBillet_3 ?_
  refine lv_iconst (v := 1) hx hb dX6_isBillet_6 (by decide) ?_
  refine lv_isub hx hb dX6_isBillet_7 ?_
  refine z_callSi (As := [.int (k), .int 0, .int ((σ 5 0) - 1)]) (rest := []) Z.1 (cm_in l (k) (0) ((σ 5 0) - 1)) (va_cwS 3 hts gX6_isBillet_X6_in rfl rfl rfl (by decide +kernel) ⟨by decide, by decide⟩) rfl hl9.1 (Nat.le_of_ble_eq_true rfl) dX6_isBillet_8 ⟨by decide, by decide⟩ rfl ?_
  exact hret _ _ _ _ _ sl9 _ _ Mz9 (rfl) (rfl) (bin_n _ _ _) (Nat.le_refl _) (Nat.le_refl _) dX6_isBillet_11
set_option maxHeartbeats 4000000 in
set_option maxRecDepth 100000 in
theorem cm_isDie (l : Launch) (D : va_G) (T : Nat → ClassId) (o : Nat) (ad : Nat → Nat) (σ : Nat → Nat → Int32) (k : Int32) : ZI l yX6_isDie wsX6_isDie (zrm 1 22) D T (mW o ad T σ) (mW o ad T σ) [.ref o, .int (k)] (bin k 0 (σ 21 0 - 1)) 0 0 := by
  refine z_inI (cc := cX6_isDie) (maxL := 2) (rt := .boolean) (by decide +kernel) rfl (Nat.le_of_ble_eq_true rfl) ?_
  intro p e s m args below meth c sl9 A Q Z hnm Mz9 hl9 hret
  have Z : zC p s m args c cX6_isDie 2 RX6 wsX6_isDie D T A := Z
  have hx := Z.1.1
  have hb := Z.1.2.1
  have hts := Z.1.2.2.2.2
  have hin6 : ∀ w ∈ wsX60, w ∈ wsX6_isDie := fun w h => List.mem_cons_of_mem _ (List.mem_append_right _ h)
  have hH0 : s.heap = s.heap := rfl
  have L100 := hts (.fieldLink RX6 100 "AnvilHouseModel" "dies" "I") (by decide +kernel)
  have hl9 : lv_has sl9 2 [(0, .ref o), (1, .int (k))] := hl9
  refine lv_iload_n hx hb dX6_isDie_0 rfl (lv_at hl9 1 rfl) ?_
  refine lv_iconst (v := 0) hx hb dX6_isDie_1 (by decide) ?_
  refine lv_aload_n hx hb dX6_isDie_2 rfl (lv_at hl9 0 rfl) ?_
  refine z_getf Z Mz9 hin6 0 rfl rfl 21 (by decide) L100 rfl (v := .int (σ 21 0)) rfl dX6_isDie_3 ?_
  refine lv_iconst (v := 1) hx hb dX6_isDie_6 (by decide) ?_
  refine lv_isub hx hb dX6_isDie_7 ?_
  refine z_callSi (As := [.int (k), .int 0, .int ((σ 21 0) - 1)]) (rest := []) Z.1 (cm_in l (k) (0) ((σ 21 0) - 1)) (va_cwS 3 hts gX6_isDie_X6_in rfl rfl rfl (by decide +kernel) ⟨by decide, by decide⟩) rfl hl9.1 (Nat.le_of_ble_eq_true rfl) dX6_isDie_8 ⟨by decide, by decide⟩ rfl ?_
  exact hret _ _ _ _ _ sl9 _ _ Mz9 (rfl) (rfl) (bin_n _ _ _) (Nat.le_refl _) (Nat.le_refl _) dX6_isDie_11
set_option maxHeartbeats 4000000 in
set_option maxRecDepth 100000 in
theorem cm_follows (l : Launch) (D : va_G) (T : Nat → ClassId) (o : Nat) (ad : Nat → Nat) (σ : Nat → Nat → Int32) (i : Nat) (sk co : Int32) (hi : i < 12) (h9 : σ 9 i = sk) (h10 : σ 10 i = co) : ZV l yX6_follows wsX6_follows (zrm 0 0) D T (mW o ad T σ) (mW o ad T (upS σ 10 (upd (σ 10) i (wrm sk co)))) [.ref o, .int (nI (i))] 0 0 := by
  refine z_inV (cc := cX6_follows) (maxL := 2) (by decide +kernel) rfl (Nat.le_of_ble_eq_true rfl) ?_
  intro p e s m args below meth c sl9 A Q Z hnm Mz9 hl9 hret
  have Z : zC p s m args c cX6_follows 2 RX6 wsX6_follows D T A := Z
  have hx := Z.1.1
  have hb := Z.1.2.1
  have hts := Z.1.2.2.2.2
  have hin6 : ∀ w ∈ wsX60, w ∈ wsX6_follows := fun w h => List.mem_cons_of_mem _ (List.mem_append_right _ h)
  have hH0 : s.heap = s.heap := rfl
  have L34 := hts (.fieldLink RX6 34 "AnvilHouseModel" "core" "[I") (by decide +kernel)
  have L31 := hts (.fieldLink RX6 31 "AnvilHouseModel" "skin" "[I") (by decide +kernel)
  have hl9 : lv_has sl9 2 [(0, .ref o), (1, .int (nI (i)))] := hl9
  refine lv_aload_n hx hb dX6_follows_0 rfl (lv_at hl9 0 rfl) ?_
  refine z_getf Z Mz9 hin6 0 rfl rfl 10 (by decide) L34 rfl (v := .ref (ad 10)) rfl dX6_follows_1 ?_
  refine lv_iload_n hx hb dX6_follows_4 rfl (lv_at hl9 1 rfl) ?_
  refine lv_dup2_11 hx hb dX6_follows_5 rfl rfl ?_
  refine z_iald Z Mz9 9 (h0 := ad 10) (n := 12) (f := σ 10) rfl (j := i) (by omega) (by decide) dX6_follows_6 ?_
  refine zn_top (y := co) (h10) ?_
  refine lv_aload_n hx hb dX6_follows_7 rfl (lv_at hl9 0 rfl) ?_
  refine z_getf Z Mz9 hin6 0 rfl rfl 9 (by decide) L31 rfl (v := .ref (ad 9)) rfl dX6_follows_8 ?_
  refine lv_iload_n hx hb dX6_follows_11 rfl (lv_at hl9 1 rfl) ?_
  refine z_iald Z Mz9 8 (h0 := ad 9) (n := 12) (f := σ 9) rfl (j := i) (by omega) (by decide) dX6_follows_12 ?_
  refine zn_top (y := sk) (h9) ?_
  refine lv_aload_n hx hb dX6_follows_13 rfl (lv_at hl9 0 rfl) ?_
  refine z_getf Z Mz9 hin6 0 rfl rfl 10 (by decide) L34 rfl (v := .ref (ad 10)) rfl dX6_follows_14 ?_
  refine lv_iload_n hx hb dX6_follows_17 rfl (lv_at hl9 1 rfl) ?_
  refine z_iald Z Mz9 9 (h0 := ad 10) (n := 12) (f := σ 10) rfl (j := i) (by omega) (by decide) dX6_follows_18 ?_
  refine zn_top (y := co) (h10) ?_
  refine lv_isub hx hb dX6_follows_19 ?_
  refine lv_bipush (v := 6) hx hb dX6_follows_20 (by decide) ?_
  refine lv_idiv hx hb dX6_follows_22 (by decide) ?_
  refine lv_iadd hx hb dX6_follows_23 ?_
  refine z_iast Z Mz9 9 (h0 := ad 10) (n := 12) (f := σ 10) rfl (j := i) (x := co + ((sk - co) / 6)) (by omega) (by decide) (ws' := mW o ad T (upS σ 10 (upd (σ 10) i (co + ((sk - co) / 6))))) rfl dX6_follows_24 (fun Hp9 lc9 Mz9 => ?_)
  exact hret _ _ _ _ _ sl9 _ Mz9 (rfl) (Nat.le_refl _) (Nat.le_refl _) dX6_follows_25
set_option maxHeartbeats 4000000 in
set_option maxRecDepth 100000 in
theorem cm_cools (l : Launch) (D : va_G) (T : Nat → ClassId) (o : Nat) (ad : Nat → Nat) (σ : Nat → Nat → Int32) (i : Nat) (sk co : Int32) (hi : i < 12) (h9 : σ 9 i = sk) (h10 : σ 10 i = co) : ZV l yX6_cools wsX6_cools (zrm 1 21) D T (mW o ad T σ) (mW o ad T (upS (upS σ 9 (upd (σ 9) i (clS sk))) 10 (upd (σ 10) i (wrm (clS sk) co)))) [.ref o, .int (nI (i))] 0 0 := by
  refine z_inV (cc := cX6_cools) (maxL := 2) (by decide +kernel) rfl (Nat.le_of_ble_eq_true rfl) ?_
  intro p e s m args below meth c sl9 A Q Z hnm Mz9 hl9 hret
  have Z : zC p s m args c cX6_cools 2 RX6 wsX6_cools D T A := Z
  have hx := Z.1.1
  have hb := Z.1.2.1
  have hts := Z.1.2.2.2.2
  have hin6 : ∀ w ∈ wsX60, w ∈ wsX6_cools := fun w h => List.mem_cons_of_mem _ (List.mem_append_right _ h)
  have hH0 : s.heap = s.heap := rfl
  have L31 := hts (.fieldLink RX6 31 "AnvilHouseModel" "skin" "[I") (by decide +kernel)
  have hl9 : lv_has sl9 2 [(0, .ref o), (1, .int (nI (i)))] := hl9
  refine lv_aload_n hx hb dX6_cools_0 rfl (lv_at hl9 0 rfl) ?_
  refine z_getf Z Mz9 hin6 0 rfl rfl 9 (by decide) L31 rfl (v := .ref (ad 9)) rfl dX6_cools_1 ?_
  refine lv_iload_n hx hb dX6_cools_4 rfl (lv_at hl9 1 rfl) ?_
  refine lv_dup2_11 hx hb dX6_cools_5 rfl rfl ?_
  refine z_iald Z Mz9 8 (h0 := ad 9) (n := 12) (f := σ 9) rfl (j := i) (by omega) (by decide) dX6_cools_6 ?_
  refine zn_top (y := sk) (h9) ?_
  refine lv_aload_n hx hb dX6_cools_7 rfl (lv_at hl9 0 rfl) ?_
  refine z_getf Z Mz9 hin6 0 rfl rfl 9 (by decide) L31 rfl (v := .ref (ad 9)) rfl dX6_cools_8 ?_
  refine lv_iload_n hx hb dX6_cools_11 rfl (lv_at hl9 1 rfl) ?_
  refine z_iald Z Mz9 8 (h0 := ad 9) (n := 12) (f := σ 9) rfl (j := i) (by omega) (by decide) dX6_cools_12 ?_
  refine zn_top (y := sk) (h9) ?_
  refine lv_bipush (v := 20) hx hb dX6_cools_13 (by decide) ?_
  refine lv_isub hx hb dX6_cools_15 ?_
  refine lv_bipush (v := 10) hx hb dX6_cools_16 (by decide) ?_
  refine lv_idiv hx hb dX6_cools_18 (by decide) ?_
  refine lv_isub hx hb dX6_cools_19 ?_
  refine z_iast Z Mz9 8 (h0 := ad 9) (n := 12) (f := σ 9) rfl (j := i) (x := sk - ((sk - 20) / 10)) (by omega) (by decide) (ws' := mW o ad T (upS σ 9 (upd (σ 9) i (sk - ((sk - 20) / 10))))) rfl dX6_cools_20 (fun Hp9 lc9 Mz9 => ?_)
  refine lv_aload_n hx hb dX6_cools_21 rfl (lv_at hl9 0 rfl) ?_
  refine lv_iload_n hx hb dX6_cools_22 rfl (lv_at hl9 1 rfl) ?_
  refine z_callAv (As := [.int (nI (i))]) (rest := []) (wc' := mW o ad T (upS (upS σ 9 (upd (σ 9) i (sk - ((sk - 20) / 10)))) 10 (upd (σ 10) i (wrm (sk - ((sk - 20) / 10)) (co))))) Z Mz9 (cm_follows l D T o ad (upS σ 9 (upd (σ 9) i (sk - ((sk - 20) / 10)))) (i) (sk - ((sk - 20) / 10)) (co) (by omega) (upd_same _ _ _) (h10)) (cwV 1 hts gX6_cools_X6_follows rfl rfl rfl (by decide +kernel) ⟨by decide, by decide⟩) (va_recv Z.2.1 Mz9.1 (ci := 7) (q0 := 0) rfl rfl) rfl hl9.1 (Nat.le_of_ble_eq_true rfl) dX6_cools_23 ⟨by decide, by decide⟩ rfl (fun Hp9 lc9 Mz9 => ?_)
  exact hret _ _ _ _ _ sl9 _ Mz9 (rfl) (Nat.le_refl _) (Nat.le_refl _) dX6_cools_26
set_option maxHeartbeats 4000000 in
set_option maxRecDepth 100000 in
theorem cm_over (l : Launch) (D : va_G) (T : Nat → ClassId) (o : Nat) (ad : Nat → Nat) (σ : Nat → Nat → Int32) (i d j : Nat) (hi : i < 12) (hd : d < 4) (hj : j < 8) : ZI l yX6_over wsX6_over (zrm 0 0) D T (mW o ad T σ) (mW o ad T σ) [.ref o, .int (nI (i)), .int (nI (d)), .int (nI (j))] (ovr (σ 7) (σ 22) (8 * i) (8 * d) j) 0 0 := by
  refine z_inI (cc := cX6_over) (maxL := 4) (rt := .int) (by decide +kernel) rfl (Nat.le_of_ble_eq_true rfl) ?_
  intro p e s m args below meth c sl9 A Q Z hnm Mz9 hl9 hret
  have Z : zC p s m args c cX6_over 4 RX6 wsX6_over D T A := Z
  have hx := Z.1.1
  have hb := Z.1.2.1
  have hts := Z.1.2.2.2.2
  have hin6 : ∀ w ∈ wsX60, w ∈ wsX6_over := fun w h => List.mem_cons_of_mem _ (List.mem_append_right _ h)
  have hH0 : s.heap = s.heap := rfl
  have L25 := hts (.fieldLink RX6 25 "AnvilHouseModel" "areas" "[I") (by decide +kernel)
  have L68 := hts (.fieldLink RX6 68 "AnvilHouseModel" "shapes" "[I") (by decide +kernel)
  have hl9 : lv_has sl9 4 [(0, .ref o), (1, .int (nI (i))), (2, .int (nI (d))), (3, .int (nI (j)))] := hl9
  refine lv_aload_n hx hb dX6_over_0 rfl (lv_at hl9 0 rfl) ?_
  refine z_getf Z Mz9 hin6 0 rfl rfl 7 (by decide) L25 rfl (v := .ref (ad 7)) rfl dX6_over_1 ?_
  refine lv_bipush (v := 8) hx hb dX6_over_4 (by decide) ?_
  refine lv_iload_n hx hb dX6_over_6 rfl (lv_at hl9 1 rfl) ?_
  refine zn_imul (a := 8) (b := i) hx hb dX6_over_7 ?_
  refine lv_iload_n hx hb dX6_over_8 rfl (lv_at hl9 3 rfl) ?_
  refine zn_iadd (a := 8 * i) (b := j) hx hb dX6_over_9 ?_
  refine z_iald Z Mz9 6 (h0 := ad 7) (n := 96) (f := σ 7) rfl (j := (8 * i) + j) (by omega) (by decide) dX6_over_10 ?_
  refine lv_aload_n hx hb dX6_over_11 rfl (lv_at hl9 0 rfl) ?_
  refine z_getf Z Mz9 hin6 0 rfl rfl 22 (by decide) L68 rfl (v := .ref (ad 22)) rfl dX6_over_12 ?_
  refine lv_bipush (v := 8) hx hb dX6_over_15 (by decide) ?_
  refine lv_iload_n hx hb dX6_over_17 rfl (lv_at hl9 2 rfl) ?_
  refine zn_imul (a := 8) (b := d) hx hb dX6_over_18 ?_
  refine lv_iload_n hx hb dX6_over_19 rfl (lv_at hl9 3 rfl) ?_
  refine zn_iadd (a := 8 * d) (b := j) hx hb dX6_over_20 ?_
  refine z_iald Z Mz9 20 (h0 := ad 22) (n := 32) (f := σ 22) rfl (j := (8 * d) + j) (by omega) (by decide) dX6_over_21 ?_
  refine lv_isub hx hb dX6_over_22 ?_
  exact hret _ _ _ _ _ sl9 _ _ Mz9 (rfl) (rfl) (rfl) (Nat.le_refl _) (Nat.le_refl _) dX6_over_23
set_option maxHeartbeats 4000000 in
set_option maxRecDepth 100000 in
theorem cm_volume (l : Launch) (D : va_G) (T : Nat → ClassId) (o : Nat) (ad : Nat → Nat) (σ : Nat → Nat → Int32) (i : Nat) (hi : i < 12) : ZI l yX6_volume wsX6_volume (zrm 0 0) D T (mW o ad T σ) (mW o ad T σ) [.ref o, .int (nI (i))] (VO (σ 7) (8 * i)) 0 0 := by
  simp only [VO_eq]
  refine z_inI (cc := cX6_volume) (maxL := 4) (rt := .int) (by decide +kernel) rfl (Nat.le_of_ble_eq_true rfl) ?_
  intro p e s m args below meth c sl9 A Q Z hnm Mz9 hl9 hret
  have Z : zC p s m args c cX6_volume 4 RX6 wsX6_volume D T A := Z
  have hx := Z.1.1
  have hb := Z.1.2.1
  have hts := Z.1.2.2.2.2
  have hin6 : ∀ w ∈ wsX60, w ∈ wsX6_volume := fun w h => List.mem_cons_of_mem _ (List.mem_append_right _ h)
  have hH0 : s.heap = s.heap := rfl
  have L25 := hts (.fieldLink RX6 25 "AnvilHouseModel" "areas" "[I") (by decide +kernel)
  have hl9 : lv_has sl9 4 [(0, .ref o), (1, .int (nI (i)))] := hl9
  refine lv_iconst (v := 0) hx hb dX6_volume_0 (by decide) ?_
  refine lv_istore_n (lv' := [(2, .int 0), (0, .ref o), (1, .int (nI (i)))]) hx hb dX6_volume_1 rfl hl9 (by decide) rfl (fun sl9 hl9 => ?_)
  refine lv_bipush (v := 8) hx hb dX6_volume_2 (by decide) ?_
  refine lv_iload_n hx hb dX6_volume_4 rfl (lv_at hl9 2 rfl) ?_
  refine zn_imul (a := 8) (b := i) hx hb dX6_volume_5 ?_
  refine lv_istore_n (lv' := [(3, .int (nI (8 * i))), (2, .int 0), (0, .ref o), (1, .int (nI (i)))]) hx hb dX6_volume_6 rfl hl9 (by decide) rfl (fun sl9 hl9 => ?_)
  have LP7_1 : ∀ (n7 k : Nat), k + n7 = 8 → ∀ (Hp9 : Heap) (lc9 : List Loc) (sl9 : Array Slot), zM D A s.heap (mW o ad T σ) Hp9 lc9 → lv_has sl9 4 [(0, .ref o), (1, .int (nI (i))), (2, .int (vol (σ 7) (8 * i) (k))), (3, .int (nI (8 * i + (k))))] → W p l e (zrm 0 0) s m args below meth c Hp9 lc9 0 0 Q (F0 m 7 sl9 []) := by
    intro n7
    induction n7 with
    | zero =>
      intro k hk9 Hp9 lc9 sl9 Mz9 hl9
      obtain rfl : 8 = k := by omega
      refine lv_iload_n hx hb dX6_volume_7 rfl (lv_at hl9 3 rfl) ?_
      refine lv_bipush (v := 8) hx hb dX6_volume_8 (by decide) ?_
      refine lv_iload_n hx hb dX6_volume_10 rfl (lv_at hl9 1 rfl) ?_
      refine zn_imul (a := 8) (b := i) hx hb dX6_volume_11 ?_
      refine lv_bipush (v := 8) hx hb dX6_volume_12 (by decide) ?_
      refine zn_iadd (a := 8 * i) (b := 8) hx hb dX6_volume_14 ?_
      refine zn_icmp_ge (a := 8 * i + (8)) (b := (8 * i) + 8) (tgt := 33) (by omega) (by omega) hx hb dX6_volume_15 (by decide) (fun _ => ?_) (fun h => absurd h (by omega))
      refine lv_iload_n hx hb dX6_volume_33 rfl (lv_at hl9 2 rfl) ?_
      exact hret _ _ _ _ _ sl9 _ _ Mz9 (rfl) (rfl) (rfl) (Nat.le_refl _) (Nat.le_refl _) dX6_volume_34
    | succ n7 ih7 =>
      intro k hk9 Hp9 lc9 sl9 Mz9 hl9
      refine lv_iload_n hx hb dX6_volume_7 rfl (lv_at hl9 3 rfl) ?_
      refine lv_bipush (v := 8) hx hb dX6_volume_8 (by decide) ?_
      refine lv_iload_n hx hb dX6_volume_10 rfl (lv_at hl9 1 rfl) ?_
      refine zn_imul (a := 8) (b := i) hx hb dX6_volume_11 ?_
      refine lv_bipush (v := 8) hx hb dX6_volume_12 (by decide) ?_
      refine zn_iadd (a := 8 * i) (b := 8) hx hb dX6_volume_14 ?_
      refine zn_icmp_ge (a := 8 * i + (k)) (b := (8 * i) + 8) (tgt := 33) (by omega) (by omega) hx hb dX6_volume_15 (by decide) (fun h => absurd h (by omega)) (fun _ => ?_)
      refine lv_iload_n hx hb dX6_volume_18 rfl (lv_at hl9 2 rfl) ?_
      refine lv_aload_n hx hb dX6_volume_19 rfl (lv_at hl9 0 rfl) ?_
      refine z_getf Z Mz9 hin6 0 rfl rfl 7 (by decide) L25 rfl (v := .ref (ad 7)) rfl dX6_volume_20 ?_
      refine lv_iload_n hx hb dX6_volume_23 rfl (lv_at hl9 3 rfl) ?_
      refine z_iald Z Mz9 6 (h0 := ad 7) (n := 96) (f := σ 7) rfl (j := 8 * i + (k)) (by omega) (by decide) dX6_volume_24 ?_
      refine lv_iadd hx hb dX6_volume_25 ?_
      refine lv_istore_n (lv' := [(2, .int ((vol (σ 7) (8 * i) (k)) + ((σ 7) (8 * i + (k))))), (0, .ref o), (1, .int (nI (i))), (3, .int (nI (8 * i + (k))))]) hx hb dX6_volume_26 rfl hl9 (by decide) rfl (fun sl9 hl9 => ?_)
      refine lv_iinc (v := nI ((8 * i + (k)) + 1)) (lv' := [(3, .int (nI ((8 * i + (k)) + 1))), (2, .int ((vol (σ 7) (8 * i) (k)) + ((σ 7) (8 * i + (k))))), (0, .ref o), (1, .int (nI (i)))]) hx hb dX6_volume_27 hl9 (k := 3) rfl (nI_add (8 * i + (k)) 1) (by decide) rfl (fun sl9 hl9 => ?_)
      refine lv_goto (tgt := 7) hx hb dX6_volume_30 (by decide) ?_
      exact ih7 (k + 1) (by omega)  _ _ _ Mz9 (lv_sub hl9 [2, 3, 1, 0] rfl)
  exact LP7_1 (8 - 0) (0) (by omega)  _ _ _ Mz9 (lv_sub hl9 [2, 3, 1, 0] rfl)
set_option maxHeartbeats 4000000 in
set_option maxRecDepth 100000 in
theorem cm_scales (l : Launch) (D : va_G) (T : Nat → ClassId) (o : Nat) (ad : Nat → Nat) (σ : Nat → Nat → Int32) (i : Nat) (lo : Int32) (hi : i < 12) (h20 : σ 20 i = lo) : ZV l yX6_scales wsX6_scales (zrm 0 0) D T (mW o ad T σ) (mW o ad T (upS (upS σ 7 (SA (σ 7) (8 * i))) 20 (upd (σ 20) i (SN (σ 7) (8 * i) lo)))) [.ref o, .int (nI (i))] 0 0 := by
  simp only [SA_eq, SN_eq]
  refine z_inV (cc := cX6_scales) (maxL := 3) (by decide +kernel) rfl (Nat.le_of_ble_eq_true rfl) ?_
  intro p e s m args below meth c sl9 A Q Z hnm Mz9 hl9 hret
  have Z : zC p s m args c cX6_scales 3 RX6 wsX6_scales D T A := Z
  have hx := Z.1.1
  have hb := Z.1.2.1
  have hts := Z.1.2.2.2.2
  have hin6 : ∀ w ∈ wsX60, w ∈ wsX6_scales := fun w h => List.mem_cons_of_mem _ (List.mem_append_right _ h)
  have hH0 : s.heap = s.heap := rfl
  have L25 := hts (.fieldLink RX6 25 "AnvilHouseModel" "areas" "[I") (by decide +kernel)
  have L65 := hts (.fieldLink RX6 65 "AnvilHouseModel" "lost" "[I") (by decide +kernel)
  have hl9 : lv_has sl9 3 [(0, .ref o), (1, .int (nI (i)))] := hl9
  refine lv_bipush (v := 8) hx hb dX6_scales_0 (by decide) ?_
  refine lv_iload_n hx hb dX6_scales_2 rfl (lv_at hl9 1 rfl) ?_
  refine zn_imul (a := 8) (b := i) hx hb dX6_scales_3 ?_
  refine lv_istore_n (lv' := [(2, .int (nI (8 * i))), (0, .ref o), (1, .int (nI (i)))]) hx hb dX6_scales_4 rfl hl9 (by decide) rfl (fun sl9 hl9 => ?_)
  have LP5_1 : ∀ (n5 k : Nat), k + n5 = 8 → ∀ (Hp9 : Heap) (lc9 : List Loc) (sl9 : Array Slot), zM D A s.heap (mW o ad T (upS (upS σ 7 (sclA (σ 7) (8 * i) (k))) 20 (upd (σ 20) i (sclN (σ 7) (8 * i) lo (k))))) Hp9 lc9 → lv_has sl9 3 [(0, .ref o), (1, .int (nI (i))), (2, .int (nI (8 * i + (k))))] → W p l e (zrm 0 0) s m args below meth c Hp9 lc9 0 0 Q (F0 m 5 sl9 []) := by
    intro n5
    induction n5 with
    | zero =>
      intro k hk9 Hp9 lc9 sl9 Mz9 hl9
      obtain rfl : 8 = k := by omega
      refine lv_iload_n hx hb dX6_scales_5 rfl (lv_at hl9 2 rfl) ?_
      refine lv_bipush (v := 8) hx hb dX6_scales_6 (by decide) ?_
      refine lv_iload_n hx hb dX6_scales_8 rfl (lv_at hl9 1 rfl) ?_
      refine zn_imul (a := 8) (b := i) hx hb dX6_scales_9 ?_
      refine lv_bipush (v := 8) hx hb dX6_scales_10 (by decide) ?_
      refine zn_iadd (a := 8 * i) (b := 8) hx hb dX6_scales_12 ?_
      refine zn_icmp_ge (a := 8 * i + (8)) (b := (8 * i) + 8) (tgt := 52) (by omega) (by omega) hx hb dX6_scales_13 (by decide) (fun _ => ?_) (fun h => absurd h (by omega))
      exact hret _ _ _ _ _ sl9 _ Mz9 (rfl) (Nat.le_refl _) (Nat.le_refl _) dX6_scales_52
    | succ n5 ih5 =>
      intro k hk9 Hp9 lc9 sl9 Mz9 hl9
      refine lv_iload_n hx hb dX6_scales_5 rfl (lv_at hl9 2 rfl) ?_
      refine lv_bipush (v := 8) hx hb dX6_scales_6 (by decide) ?_
      refine lv_iload_n hx hb dX6_scales_8 rfl (lv_at hl9 1 rfl) ?_
      refine zn_imul (a := 8) (b := i) hx hb dX6_scales_9 ?_
      refine lv_bipush (v := 8) hx hb dX6_scales_10 (by decide) ?_
      refine zn_iadd (a := 8 * i) (b := 8) hx hb dX6_scales_12 ?_
      refine zn_icmp_ge (a := 8 * i + (k)) (b := (8 * i) + 8) (tgt := 52) (by omega) (by omega) hx hb dX6_scales_13 (by decide) (fun h => absurd h (by omega)) (fun _ => ?_)
      refine lv_aload_n hx hb dX6_scales_16 rfl (lv_at hl9 0 rfl) ?_
      refine z_getf Z Mz9 hin6 0 rfl rfl 7 (by decide) L25 rfl (v := .ref (ad 7)) rfl dX6_scales_17 ?_
      refine lv_iload_n hx hb dX6_scales_20 rfl (lv_at hl9 2 rfl) ?_
      refine z_iald Z Mz9 6 (h0 := ad 7) (n := 96) (f := sclA (σ 7) (8 * i) (k)) rfl (j := 8 * i + (k)) (by omega) (by decide) dX6_scales_21 ?_
      refine lv_iconst (v := 1) hx hb dX6_scales_22 (by decide) ?_
      refine lv_icmp_le (tgt := 46) hx hb dX6_scales_23 (by decide) (fun c_1 => ?_) (fun c_1 => ?_)
      ·
        refine lv_iinc (v := nI ((8 * i + (k)) + 1)) (lv' := [(2, .int (nI ((8 * i + (k)) + 1))), (0, .ref o), (1, .int (nI (i)))]) hx hb dX6_scales_46 hl9 (k := 2) rfl (nI_add (8 * i + (k)) 1) (by decide) rfl (fun sl9 hl9 => ?_)
        refine lv_goto (tgt := 5) hx hb dX6_scales_49 (by decide) ?_
        exact ih5 (k + 1) (by omega)  _ _ _ (zM_w (by simp only [sclA, sclN, upd_same, upd_upd, if_neg (Int32.not_lt.mpr c_1)]) Mz9) (lv_sub hl9 [1, 2, 0] rfl)
      ·
        refine lv_aload_n hx hb dX6_scales_26 rfl (lv_at hl9 0 rfl) ?_
        refine z_getf Z Mz9 hin6 0 rfl rfl 7 (by decide) L25 rfl (v := .ref (ad 7)) rfl dX6_scales_27 ?_
        refine lv_iload_n hx hb dX6_scales_30 rfl (lv_at hl9 2 rfl) ?_
        refine lv_dup2_11 hx hb dX6_scales_31 rfl rfl ?_
        refine z_iald Z Mz9 6 (h0 := ad 7) (n := 96) (f := sclA (σ 7) (8 * i) (k)) rfl (j := 8 * i + (k)) (by omega) (by decide) dX6_scales_32 ?_
        refine lv_iconst (v := 1) hx hb dX6_scales_33 (by decide) ?_
        refine lv_isub hx hb dX6_scales_34 ?_
        refine z_iast Z Mz9 6 (h0 := ad 7) (n := 96) (f := sclA (σ 7) (8 * i) (k)) rfl (j := 8 * i + (k)) (x := ((sclA (σ 7) (8 * i) (k)) (8 * i + (k))) - 1) (by omega) (by decide) (ws' := mW o ad T (upS (upS σ 7 (upd (sclA (σ 7) (8 * i) (k)) (8 * i + (k)) (((sclA (σ 7) (8 * i) (k)) (8 * i + (k))) - 1))) 20 (upd (σ 20) i (sclN (σ 7) (8 * i) lo (k))))) rfl dX6_scales_35 (fun Hp9 lc9 Mz9 => ?_)
        refine lv_aload_n hx hb dX6_scales_36 rfl (lv_at hl9 0 rfl) ?_
        refine z_getf Z Mz9 hin6 0 rfl rfl 20 (by decide) L65 rfl (v := .ref (ad 20)) rfl dX6_scales_37 ?_
        refine lv_iload_n hx hb dX6_scales_40 rfl (lv_at hl9 1 rfl) ?_
        refine lv_dup2_11 hx hb dX6_scales_41 rfl rfl ?_
        refine z_iald Z Mz9 19 (h0 := ad 20) (n := 12) (f := upd (σ 20) i (sclN (σ 7) (8 * i) lo (k))) rfl (j := i) (by omega) (by decide) dX6_scales_42 ?_
        refine zn_top (y := sclN (σ 7) (8 * i) lo (k)) (upd_same _ _ _) ?_
        refine lv_iconst (v := 1) hx hb dX6_scales_43 (by decide) ?_
        refine lv_iadd hx hb dX6_scales_44 ?_
        refine z_iast Z Mz9 19 (h0 := ad 20) (n := 12) (f := upd (σ 20) i (sclN (σ 7) (8 * i) lo (k))) rfl (j := i) (x := (sclN (σ 7) (8 * i) lo (k)) + 1) (by omega) (by decide) (ws' := mW o ad T (upS (upS σ 7 (upd (sclA (σ 7) (8 * i) (k)) (8 * i + (k)) (((sclA (σ 7) (8 * i) (k)) (8 * i + (k))) - 1))) 20 (upd (upd (σ 20) i (sclN (σ 7) (8 * i) lo (k))) i ((sclN (σ 7) (8 * i) lo (k)) + 1)))) rfl dX6_scales_45 (fun Hp9 lc9 Mz9 => ?_)
        refine lv_iinc (v := nI ((8 * i + (k)) + 1)) (lv' := [(2, .int (nI ((8 * i + (k)) + 1))), (0, .ref o), (1, .int (nI (i)))]) hx hb dX6_scales_46 hl9 (k := 2) rfl (nI_add (8 * i + (k)) 1) (by decide) rfl (fun sl9 hl9 => ?_)
        refine lv_goto (tgt := 5) hx hb dX6_scales_49 (by decide) ?_
        exact ih5 (k + 1) (by omega)  _ _ _ (zM_w (by simp only [sclA, sclN, upd_same, upd_upd, if_pos (Int32.not_le.mp c_1)]) Mz9) (lv_sub hl9 [1, 2, 0] rfl)
  exact LP5_1 (8 - 0) (0) (by omega)  _ _ _ (zM_w (by simp only [sclA, sclN, ← h20, upd_id, upS_id]) Mz9) (lv_sub hl9 [1, 2, 0] rfl)
set_option maxHeartbeats 4000000 in
set_option maxRecDepth 100000 in
theorem cm_thrown (l : Launch) (D : va_G) (T : Nat → ClassId) (o : Nat) (ad : Nat → Nat) (σ : Nat → Nat → Int32)  : ZI l yX6_thrown wsX6_thrown (zrm 0 0) D T (mW o ad T σ) (mW o ad T σ) [.ref o] (σ 31 0) 0 0 := by
  refine z_inI (cc := cX6_thrown) (maxL := 1) (rt := .int) (by decide +kernel) rfl (Nat.le_of_ble_eq_true rfl) ?_
  intro p e s m args below meth c sl9 A Q Z hnm Mz9 hl9 hret
  have Z : zC p s m args c cX6_thrown 1 RX6 wsX6_thrown D T A := Z
  have hx := Z.1.1
  have hb := Z.1.2.1
  have hts := Z.1.2.2.2.2
  have hin6 : ∀ w ∈ wsX60, w ∈ wsX6_thrown := fun w h => List.mem_cons_of_mem _ (List.mem_append_right _ h)
  have hH0 : s.heap = s.heap := rfl
  have L90 := hts (.fieldLink RX6 90 "AnvilHouseModel" "thrown" "I") (by decide +kernel)
  have hl9 : lv_has sl9 1 [(0, .ref o)] := hl9
  refine lv_aload_n hx hb dX6_thrown_0 rfl (lv_at hl9 0 rfl) ?_
  refine z_getf Z Mz9 hin6 0 rfl rfl 31 (by decide) L90 rfl (v := .int (σ 31 0)) rfl dX6_thrown_1 ?_
  exact hret _ _ _ _ _ sl9 _ _ Mz9 (rfl) (rfl) (rfl) (Nat.le_refl _) (Nat.le_refl _) dX6_thrown_4
set_option maxHeartbeats 4000000 in
set_option maxRecDepth 100000 in
theorem cm_steelIs (l : Launch) (D : va_G) (T : Nat → ClassId) (o : Nat) (ad : Nat → Nat) (σ : Nat → Nat → Int32) (i mo : Nat) (hi : i < 12) (hm : σ 6 i = nI mo) (hmo : mo < 20) : ZI l yX6_steelIs wsX6_steelIs (zrm 0 0) D T (mW o ad T σ) (mW o ad T σ) [.ref o, .int (nI (i))] (σ 4 mo) 0 0 := by
  refine z_inI (cc := cX6_steelIs) (maxL := 2) (rt := .int) (by decide +kernel) rfl (Nat.le_of_ble_eq_true rfl) ?_
  intro p e s m args below meth c sl9 A Q Z hnm Mz9 hl9 hret
  have Z : zC p s m args c cX6_steelIs 2 RX6 wsX6_steelIs D T A := Z
  have hx := Z.1.1
  have hb := Z.1.2.1
  have hts := Z.1.2.2.2.2
  have hin6 : ∀ w ∈ wsX60, w ∈ wsX6_steelIs := fun w h => List.mem_cons_of_mem _ (List.mem_append_right _ h)
  have hH0 : s.heap = s.heap := rfl
  have L19 := hts (.fieldLink RX6 19 "AnvilHouseModel" "steelOf" "[I") (by decide +kernel)
  have L22 := hts (.fieldLink RX6 22 "AnvilHouseModel" "meltOf" "[I") (by decide +kernel)
  have hl9 : lv_has sl9 2 [(0, .ref o), (1, .int (nI (i)))] := hl9
  refine lv_aload_n hx hb dX6_steelIs_0 rfl (lv_at hl9 0 rfl) ?_
  refine z_getf Z Mz9 hin6 0 rfl rfl 4 (by decide) L19 rfl (v := .ref (ad 4)) rfl dX6_steelIs_1 ?_
  refine lv_aload_n hx hb dX6_steelIs_4 rfl (lv_at hl9 0 rfl) ?_
  refine z_getf Z Mz9 hin6 0 rfl rfl 6 (by decide) L22 rfl (v := .ref (ad 6)) rfl dX6_steelIs_5 ?_
  refine lv_iload_n hx hb dX6_steelIs_8 rfl (lv_at hl9 1 rfl) ?_
  refine z_iald Z Mz9 5 (h0 := ad 6) (n := 12) (f := σ 6) rfl (j := i) (by omega) (by decide) dX6_steelIs_9 ?_
  refine zn_top (y := nI (mo)) (hm) ?_
  refine z_iald Z Mz9 4 (h0 := ad 4) (n := 20) (f := σ 4) rfl (j := mo) (by omega) (by decide) dX6_steelIs_10 ?_
  exact hret _ _ _ _ _ sl9 _ _ Mz9 (rfl) (rfl) (rfl) (Nat.le_refl _) (Nat.le_refl _) dX6_steelIs_11
set_option maxHeartbeats 4000000 in
set_option maxRecDepth 100000 in
theorem cm_softens (l : Launch) (D : va_G) (T : Nat → ClassId) (o : Nat) (ad : Nat → Nat) (σ : Nat → Nat → Int32) (i : Nat) (hi : i < 12) : ZV l yX6_softens wsX6_softens (zrm 0 0) D T (mW o ad T σ) (mW o ad T (upS (upS (upS σ 8 (FI (σ 8) (8 * i) 0)) 16 (upd (σ 16) i (-1))) 17 (upd (σ 17) i 0))) [.ref o, .int (nI (i))] 0 0 := by
  simp only [FI_eq]
  refine z_inV (cc := cX6_softens) (maxL := 3) (by decide +kernel) rfl (Nat.le_of_ble_eq_true rfl) ?_
  intro p e s m args below meth c sl9 A Q Z hnm Mz9 hl9 hret
  have Z : zC p s m args c cX6_softens 3 RX6 wsX6_softens D T A := Z
  have hx := Z.1.1
  have hb := Z.1.2.1
  have hts := Z.1.2.2.2.2
  have hin6 : ∀ w ∈ wsX60, w ∈ wsX6_softens := fun w h => List.mem_cons_of_mem _ (List.mem_append_right _ h)
  have hH0 : s.heap = s.heap := rfl
  have L28 := hts (.fieldLink RX6 28 "AnvilHouseModel" "quenched" "[I") (by decide +kernel)
  have L56 := hts (.fieldLink RX6 56 "AnvilHouseModel" "tempered" "[I") (by decide +kernel)
  have L53 := hts (.fieldLink RX6 53 "AnvilHouseModel" "load" "[I") (by decide +kernel)
  have hl9 : lv_has sl9 3 [(0, .ref o), (1, .int (nI (i)))] := hl9
  refine lv_bipush (v := 8) hx hb dX6_softens_0 (by decide) ?_
  refine lv_iload_n hx hb dX6_softens_2 rfl (lv_at hl9 1 rfl) ?_
  refine zn_imul (a := 8) (b := i) hx hb dX6_softens_3 ?_
  refine lv_istore_n (lv' := [(2, .int (nI (8 * i))), (0, .ref o), (1, .int (nI (i)))]) hx hb dX6_softens_4 rfl hl9 (by decide) rfl (fun sl9 hl9 => ?_)
  have LP5_1 : ∀ (n5 k : Nat), k + n5 = 8 → ∀ (Hp9 : Heap) (lc9 : List Loc) (sl9 : Array Slot), zM D A s.heap (mW o ad T (upS σ 8 (fil (σ 8) (8 * i) 0 (k)))) Hp9 lc9 → lv_has sl9 3 [(0, .ref o), (1, .int (nI (i))), (2, .int (nI (8 * i + (k))))] → W p l e (zrm 0 0) s m args below meth c Hp9 lc9 0 0 Q (F0 m 5 sl9 []) := by
    intro n5
    induction n5 with
    | zero =>
      intro k hk9 Hp9 lc9 sl9 Mz9 hl9
      obtain rfl : 8 = k := by omega
      refine lv_iload_n hx hb dX6_softens_5 rfl (lv_at hl9 2 rfl) ?_
      refine lv_bipush (v := 8) hx hb dX6_softens_6 (by decide) ?_
      refine lv_iload_n hx hb dX6_softens_8 rfl (lv_at hl9 1 rfl) ?_
      refine zn_imul (a := 8) (b := i) hx hb dX6_softens_9 ?_
      refine lv_bipush (v := 8) hx hb dX6_softens_10 (by decide) ?_
      refine zn_iadd (a := 8 * i) (b := 8) hx hb dX6_softens_12 ?_
      refine zn_icmp_ge (a := 8 * i + (8)) (b := (8 * i) + 8) (tgt := 29) (by omega) (by omega) hx hb dX6_softens_13 (by decide) (fun _ => ?_) (fun h => absurd h (by omega))
      refine lv_aload_n hx hb dX6_softens_29 rfl (lv_at hl9 0 rfl) ?_
      refine z_getf Z Mz9 hin6 0 rfl rfl 17 (by decide) L56 rfl (v := .ref (ad 17)) rfl dX6_softens_30 ?_
      refine lv_iload_n hx hb dX6_softens_33 rfl (lv_at hl9 1 rfl) ?_
      refine lv_iconst (v := 0) hx hb dX6_softens_34 (by decide) ?_
      refine z_iast Z Mz9 16 (h0 := ad 17) (n := 12) (f := σ 17) rfl (j := i) (x := 0) (by omega) (by decide) (ws' := mW o ad T (upS (upS σ 8 (fil (σ 8) (8 * i) 0 (8))) 17 (upd (σ 17) i 0))) rfl dX6_softens_35 (fun Hp9 lc9 Mz9 => ?_)
      refine lv_aload_n hx hb dX6_softens_36 rfl (lv_at hl9 0 rfl) ?_
      refine z_getf Z Mz9 hin6 0 rfl rfl 16 (by decide) L53 rfl (v := .ref (ad 16)) rfl dX6_softens_37 ?_
      refine lv_iload_n hx hb dX6_softens_40 rfl (lv_at hl9 1 rfl) ?_
      refine lv_iconst (v := (-1)) hx hb dX6_softens_41 (by decide) ?_
      refine z_iast Z Mz9 15 (h0 := ad 16) (n := 12) (f := σ 16) rfl (j := i) (x := (-1)) (by omega) (by decide) (ws' := mW o ad T (upS (upS (upS σ 8 (fil (σ 8) (8 * i) 0 (8))) 16 (upd (σ 16) i (-1))) 17 (upd (σ 17) i 0))) rfl dX6_softens_42 (fun Hp9 lc9 Mz9 => ?_)
      exact hret _ _ _ _ _ sl9 _ Mz9 (rfl) (Nat.le_refl _) (Nat.le_refl _) dX6_softens_43
    | succ n5 ih5 =>
      intro k hk9 Hp9 lc9 sl9 Mz9 hl9
      refine lv_iload_n hx hb dX6_softens_5 rfl (lv_at hl9 2 rfl) ?_
      refine lv_bipush (v := 8) hx hb dX6_softens_6 (by decide) ?_
      refine lv_iload_n hx hb dX6_softens_8 rfl (lv_at hl9 1 rfl) ?_
      refine zn_imul (a := 8) (b := i) hx hb dX6_softens_9 ?_
      refine lv_bipush (v := 8) hx hb dX6_softens_10 (by decide) ?_
      refine zn_iadd (a := 8 * i) (b := 8) hx hb dX6_softens_12 ?_
      refine zn_icmp_ge (a := 8 * i + (k)) (b := (8 * i) + 8) (tgt := 29) (by omega) (by omega) hx hb dX6_softens_13 (by decide) (fun h => absurd h (by omega)) (fun _ => ?_)
      refine lv_aload_n hx hb dX6_softens_16 rfl (lv_at hl9 0 rfl) ?_
      refine z_getf Z Mz9 hin6 0 rfl rfl 8 (by decide) L28 rfl (v := .ref (ad 8)) rfl dX6_softens_17 ?_
      refine lv_iload_n hx hb dX6_softens_20 rfl (lv_at hl9 2 rfl) ?_
      refine lv_iconst (v := 0) hx hb dX6_softens_21 (by decide) ?_
      refine z_iast Z Mz9 7 (h0 := ad 8) (n := 96) (f := fil (σ 8) (8 * i) 0 (k)) rfl (j := 8 * i + (k)) (x := 0) (by omega) (by decide) (ws' := mW o ad T (upS σ 8 (upd (fil (σ 8) (8 * i) 0 (k)) (8 * i + (k)) 0))) rfl dX6_softens_22 (fun Hp9 lc9 Mz9 => ?_)
      refine lv_iinc (v := nI ((8 * i + (k)) + 1)) (lv' := [(2, .int (nI ((8 * i + (k)) + 1))), (0, .ref o), (1, .int (nI (i)))]) hx hb dX6_softens_23 hl9 (k := 2) rfl (nI_add (8 * i + (k)) 1) (by decide) rfl (fun sl9 hl9 => ?_)
      refine lv_goto (tgt := 5) hx hb dX6_softens_26 (by decide) ?_
      exact ih5 (k + 1) (by omega)  _ _ _ Mz9 (lv_sub hl9 [1, 2, 0] rfl)
  exact LP5_1 (8 - 0) (0) (by omega)  _ _ _ (zM_w (by simp only [fil, upS_id]) Mz9) (lv_sub hl9 [1, 2, 0] rfl)
set_option maxHeartbeats 4000000 in
set_option maxRecDepth 100000 in
theorem cm_hardnessOf (l : Launch) (D : va_G) (T : Nat → ClassId) (o : Nat) (ad : Nat → Nat) (σ : Nat → Nat → Int32) (i j : Nat) (hi : i < 12) (hj : j < 8) : ZI l yX6_hardnessOf wsX6_hardnessOf (zrm 0 0) D T (mW o ad T σ) (mW o ad T σ) [.ref o, .int (nI (i)), .int (nI (j))] (hrd (σ 8 (8 * i + j)) (σ 17 i)) 0 0 := by
  refine z_inI (cc := cX6_hardnessOf) (maxL := 4) (rt := .int) (by decide +kernel) rfl (Nat.le_of_ble_eq_true rfl) ?_
  intro p e s m args below meth c sl9 A Q Z hnm Mz9 hl9 hret
  have Z : zC p s m args c cX6_hardnessOf 4 RX6 wsX6_hardnessOf D T A := Z
  have hx := Z.1.1
  have hb := Z.1.2.1
  have hts := Z.1.2.2.2.2
  have hin6 : ∀ w ∈ wsX60, w ∈ wsX6_hardnessOf := fun w h => List.mem_cons_of_mem _ (List.mem_append_right _ h)
  have hH0 : s.heap = s.heap := rfl
  have L28 := hts (.fieldLink RX6 28 "AnvilHouseModel" "quenched" "[I") (by decide +kernel)
  have L56 := hts (.fieldLink RX6 56 "AnvilHouseModel" "tempered" "[I") (by decide +kernel)
  have hl9 : lv_has sl9 4 [(0, .ref o), (1, .int (nI (i))), (2, .int (nI (j)))] := hl9
  refine lv_aload_n hx hb dX6_hardnessOf_0 rfl (lv_at hl9 0 rfl) ?_
  refine z_getf Z Mz9 hin6 0 rfl rfl 8 (by decide) L28 rfl (v := .ref (ad 8)) rfl dX6_hardnessOf_1 ?_
  refine lv_bipush (v := 8) hx hb dX6_hardnessOf_4 (by decide) ?_
  refine lv_iload_n hx hb dX6_hardnessOf_6 rfl (lv_at hl9 1 rfl) ?_
  refine zn_imul (a := 8) (b := i) hx hb dX6_hardnessOf_7 ?_
  refine lv_iload_n hx hb dX6_hardnessOf_8 rfl (lv_at hl9 2 rfl) ?_
  refine zn_iadd (a := 8 * i) (b := j) hx hb dX6_hardnessOf_9 ?_
  refine z_iald Z Mz9 7 (h0 := ad 8) (n := 96) (f := σ 8) rfl (j := (8 * i) + j) (by omega) (by decide) dX6_hardnessOf_10 ?_
  refine lv_aload_n hx hb dX6_hardnessOf_11 rfl (lv_at hl9 0 rfl) ?_
  refine z_getf Z Mz9 hin6 0 rfl rfl 17 (by decide) L56 rfl (v := .ref (ad 17)) rfl dX6_hardnessOf_12 ?_
  refine lv_iload_n hx hb dX6_hardnessOf_15 rfl (lv_at hl9 1 rfl) ?_
  refine z_iald Z Mz9 16 (h0 := ad 17) (n := 12) (f := σ 17) rfl (j := i) (by omega) (by decide) dX6_hardnessOf_16 ?_
  refine lv_bipush (v := 100) hx hb dX6_hardnessOf_17 (by decide) ?_
  refine lv_icmp_le (tgt := 37) hx hb dX6_hardnessOf_19 (by decide) (fun c_1 => ?_) (fun c_1 => ?_)
  ·
    refine lv_iconst (v := 0) hx hb dX6_hardnessOf_37 (by decide) ?_
    refine lv_isub hx hb dX6_hardnessOf_38 ?_
    refine lv_istore_n (lv' := [(3, .int (((σ 8) ((8 * i) + j)) - 0)), (0, .ref o), (1, .int (nI (i))), (2, .int (nI (j)))]) hx hb dX6_hardnessOf_39 rfl hl9 (by decide) rfl (fun sl9 hl9 => ?_)
    refine lv_iload_n hx hb dX6_hardnessOf_40 rfl (lv_at hl9 0 rfl) ?_
    refine lv_if_ge (tgt := 48) hx hb dX6_hardnessOf_41 (by decide) (fun c_2 => ?_) (fun c_2 => ?_)
    ·
      refine lv_iload_n hx hb dX6_hardnessOf_48 rfl (lv_at hl9 0 rfl) ?_
      exact hret _ _ _ _ _ sl9 _ _ Mz9 (rfl) (by simp only [hrd, if_neg (Int32.not_lt.mpr c_1), if_neg (Int32.not_lt.mpr c_2)]) (rfl) (Nat.le_refl _) (Nat.le_refl _) dX6_hardnessOf_49
    ·
      refine lv_iconst (v := 0) hx hb dX6_hardnessOf_44 (by decide) ?_
      refine lv_goto (tgt := 49) hx hb dX6_hardnessOf_45 (by decide) ?_
      exact hret _ _ _ _ _ sl9 _ _ Mz9 (rfl) (by simp only [hrd, if_neg (Int32.not_lt.mpr c_1), if_pos (Int32.not_le.mp c_2)]) (rfl) (Nat.le_refl _) (Nat.le_refl _) dX6_hardnessOf_49
  ·
    refine lv_aload_n hx hb dX6_hardnessOf_22 rfl (lv_at hl9 0 rfl) ?_
    refine z_getf Z Mz9 hin6 0 rfl rfl 17 (by decide) L56 rfl (v := .ref (ad 17)) rfl dX6_hardnessOf_23 ?_
    refine lv_iload_n hx hb dX6_hardnessOf_26 rfl (lv_at hl9 1 rfl) ?_
    refine z_iald Z Mz9 16 (h0 := ad 17) (n := 12) (f := σ 17) rfl (j := i) (by omega) (by decide) dX6_hardnessOf_27 ?_
    refine lv_bipush (v := 100) hx hb dX6_hardnessOf_28 (by decide) ?_
    refine lv_isub hx hb dX6_hardnessOf_30 ?_
    refine lv_bipush (v := 20) hx hb dX6_hardnessOf_31 (by decide) ?_
    refine lv_idiv hx hb dX6_hardnessOf_33 (by decide) ?_
    refine lv_goto (tgt := 38) hx hb dX6_hardnessOf_34 (by decide) ?_
    refine lv_isub hx hb dX6_hardnessOf_38 ?_
    refine lv_istore_n (lv' := [(3, .int (((σ 8) ((8 * i) + j)) - ((((σ 17) i) - 100) / 20))), (0, .ref o), (1, .int (nI (i))), (2, .int (nI (j)))]) hx hb dX6_hardnessOf_39 rfl hl9 (by decide) rfl (fun sl9 hl9 => ?_)
    refine lv_iload_n hx hb dX6_hardnessOf_40 rfl (lv_at hl9 0 rfl) ?_
    refine lv_if_ge (tgt := 48) hx hb dX6_hardnessOf_41 (by decide) (fun c_3 => ?_) (fun c_3 => ?_)
    ·
      refine lv_iload_n hx hb dX6_hardnessOf_48 rfl (lv_at hl9 0 rfl) ?_
      exact hret _ _ _ _ _ sl9 _ _ Mz9 (rfl) (by simp only [hrd, if_pos (Int32.not_le.mp c_1), if_neg (Int32.not_lt.mpr c_3)]) (rfl) (Nat.le_refl _) (Nat.le_refl _) dX6_hardnessOf_49
    ·
      refine lv_iconst (v := 0) hx hb dX6_hardnessOf_44 (by decide) ?_
      refine lv_goto (tgt := 49) hx hb dX6_hardnessOf_45 (by decide) ?_
      exact hret _ _ _ _ _ sl9 _ _ Mz9 (rfl) (by simp only [hrd, if_pos (Int32.not_le.mp c_1), if_pos (Int32.not_le.mp c_3)]) (rfl) (Nat.le_refl _) (Nat.le_refl _) dX6_hardnessOf_49
set_option maxHeartbeats 4000000 in
set_option maxRecDepth 100000 in
theorem cm_softest (l : Launch) (D : va_G) (T : Nat → ClassId) (o : Nat) (ad : Nat → Nat) (σ : Nat → Nat → Int32) (i : Nat) (hi : i < 12) : ZI l yX6_softest wsX6_softest (zrm 1 23) D T (mW o ad T σ) (mW o ad T σ) [.ref o, .int (nI (i))] (SF (fun j => σ 8 (8 * i + j)) (σ 17 i)) 0 0 := by
  simp only [SF_eq]
  refine z_inI (cc := cX6_softest) (maxL := 4) (rt := .int) (by decide +kernel) rfl (Nat.le_of_ble_eq_true rfl) ?_
  intro p e s m args below meth c sl9 A Q Z hnm Mz9 hl9 hret
  have Z : zC p s m args c cX6_softest 4 RX6 wsX6_softest D T A := Z
  have hx := Z.1.1
  have hb := Z.1.2.1
  have hts := Z.1.2.2.2.2
  have hin6 : ∀ w ∈ wsX60, w ∈ wsX6_softest := fun w h => List.mem_cons_of_mem _ (List.mem_append_right _ h)
  have hH0 : s.heap = s.heap := rfl
  have hl9 : lv_has sl9 4 [(0, .ref o), (1, .int (nI (i)))] := hl9
  refine lv_aload_n hx hb dX6_softest_0 rfl (lv_at hl9 0 rfl) ?_
  refine lv_iload_n hx hb dX6_softest_1 rfl (lv_at hl9 1 rfl) ?_
  refine lv_iconst (v := 0) hx hb dX6_softest_2 (by decide) ?_
  refine z_callAi (As := [.int (nI (i)), .int 0]) (rest := []) (rv := hrd ((σ 8) (8 * i + 0)) ((σ 17) i)) (wc' := mW o ad T σ) Z Mz9 (cm_hardnessOf l D T o ad (σ) (i) (0) (by omega) (by omega)) (cwV 2 hts gX6_softest_X6_hardnessOf rfl rfl rfl (by decide +kernel) ⟨by decide, by decide⟩) (va_recv Z.2.1 Mz9.1 (ci := 7) (q0 := 0) rfl rfl) rfl hl9.1 (Nat.le_of_ble_eq_true rfl) dX6_softest_3 ⟨by decide, by decide⟩ rfl (fun Hp9 lc9 Mz9 => ?_)
  refine lv_istore_n (lv' := [(2, .int (hrd ((σ 8) (8 * i + 0)) ((σ 17) i))), (0, .ref o), (1, .int (nI (i)))]) hx hb dX6_softest_6 rfl hl9 (by decide) rfl (fun sl9 hl9 => ?_)
  refine lv_iconst (v := 1) hx hb dX6_softest_7 (by decide) ?_
  refine lv_istore_n (lv' := [(3, .int 1), (2, .int (hrd ((σ 8) (8 * i + 0)) ((σ 17) i))), (0, .ref o), (1, .int (nI (i)))]) hx hb dX6_softest_8 rfl hl9 (by decide) rfl (fun sl9 hl9 => ?_)
  have LP9_1 : ∀ (n9 k : Nat), k + n9 = 7 → ∀ (Hp9 : Heap) (lc9 : List Loc) (sl9 : Array Slot), zM D A s.heap (mW o ad T σ) Hp9 lc9 → lv_has sl9 4 [(0, .ref o), (1, .int (nI (i))), (2, .int (sft (fun j => σ 8 (8 * i + j)) (σ 17 i) (k))), (3, .int (nI (k + 1)))] → W p l e (zrm 1 23) s m args below meth c Hp9 lc9 0 0 Q (F0 m 9 sl9 []) := by
    intro n9
    induction n9 with
    | zero =>
      intro k hk9 Hp9 lc9 sl9 Mz9 hl9
      obtain rfl : 7 = k := by omega
      refine lv_iload_n hx hb dX6_softest_9 rfl (lv_at hl9 3 rfl) ?_
      refine lv_bipush (v := 8) hx hb dX6_softest_10 (by decide) ?_
      refine zn_icmp_ge (a := 7 + 1) (b := 8) (tgt := 32) (by omega) (by decide) hx hb dX6_softest_12 (by decide) (fun _ => ?_) (fun h => absurd h (by omega))
      refine lv_iload_n hx hb dX6_softest_32 rfl (lv_at hl9 2 rfl) ?_
      exact hret _ _ _ _ _ sl9 _ _ Mz9 (rfl) (rfl) (rfl) (Nat.le_refl _) (Nat.le_refl _) dX6_softest_33
    | succ n9 ih9 =>
      intro k hk9 Hp9 lc9 sl9 Mz9 hl9
      refine lv_iload_n hx hb dX6_softest_9 rfl (lv_at hl9 3 rfl) ?_
      refine lv_bipush (v := 8) hx hb dX6_softest_10 (by decide) ?_
      refine zn_icmp_ge (a := k + 1) (b := 8) (tgt := 32) (by omega) (by decide) hx hb dX6_softest_12 (by decide) (fun h => absurd h (by omega)) (fun _ => ?_)
      refine lv_iload_n hx hb dX6_softest_15 rfl (lv_at hl9 2 rfl) ?_
      refine lv_aload_n hx hb dX6_softest_16 rfl (lv_at hl9 0 rfl) ?_
      refine lv_iload_n hx hb dX6_softest_17 rfl (lv_at hl9 1 rfl) ?_
      refine lv_iload_n hx hb dX6_softest_18 rfl (lv_at hl9 3 rfl) ?_
      refine z_callAi (As := [.int (nI (i)), .int (nI (k + 1))]) (rest := [.int (sft (fun j => σ 8 (8 * i + j)) (σ 17 i) (k))]) (rv := hrd ((σ 8) (8 * i + (k + 1))) ((σ 17) i)) (wc' := mW o ad T σ) Z Mz9 (cm_hardnessOf l D T o ad (σ) (i) (k + 1) (by omega) (by omega)) (cwV 2 hts gX6_softest_X6_hardnessOf rfl rfl rfl (by decide +kernel) ⟨by decide, by decide⟩) (va_recv Z.2.1 Mz9.1 (ci := 7) (q0 := 0) rfl rfl) rfl hl9.1 (Nat.le_of_ble_eq_true rfl) dX6_softest_19 ⟨by decide, by decide⟩ rfl (fun Hp9 lc9 Mz9 => ?_)
      refine z_callSi (As := [.int (sft (fun j => σ 8 (8 * i + j)) (σ 17 i) (k)), .int (hrd ((σ 8) (8 * i + (k + 1))) ((σ 17) i))]) (rest := []) Z.1 (cm_least l (sft (fun j => σ 8 (8 * i + j)) (σ 17 i) (k)) (hrd ((σ 8) (8 * i + (k + 1))) ((σ 17) i))) (va_cwS 2 hts gX6_softest_X6_least rfl rfl rfl (by decide +kernel) ⟨by decide, by decide⟩) rfl hl9.1 (Nat.le_of_ble_eq_true rfl) dX6_softest_22 ⟨by decide, by decide⟩ rfl ?_
      refine lv_istore_n (lv' := [(2, .int (imin (sft (fun j => σ 8 (8 * i + j)) (σ 17 i) (k)) (hrd ((σ 8) (8 * i + (k + 1))) ((σ 17) i)))), (0, .ref o), (1, .int (nI (i))), (3, .int (nI (k + 1)))]) hx hb dX6_softest_25 rfl hl9 (by decide) rfl (fun sl9 hl9 => ?_)
      refine lv_iinc (v := nI ((k + 1) + 1)) (lv' := [(3, .int (nI ((k + 1) + 1))), (2, .int (imin (sft (fun j => σ 8 (8 * i + j)) (σ 17 i) (k)) (hrd ((σ 8) (8 * i + (k + 1))) ((σ 17) i)))), (0, .ref o), (1, .int (nI (i)))]) hx hb dX6_softest_26 hl9 (k := 3) rfl (nI_add (k + 1) 1) (by decide) rfl (fun sl9 hl9 => ?_)
      refine lv_goto (tgt := 9) hx hb dX6_softest_29 (by decide) ?_
      exact ih9 (k + 1) (by omega)  _ _ _ Mz9 (lv_sub hl9 [2, 3, 1, 0] rfl)
  exact LP9_1 (7 - 0) (0) (by omega)  _ _ _ Mz9 (lv_sub hl9 [2, 3, 1, 0] rfl)
set_option maxHeartbeats 4000000 in
set_option maxRecDepth 100000 in
theorem cm_acted (l : Launch) (q : Int32) (a : Nat) (ha : a < 3) : ZS l yX6_acted wsX6_acted (zrm 0 0) [.int (q), .int (nI (a))] (AC q a) := by
  simp only [AC_eq]
  refine z_inS (cc := cX6_acted) (maxL := 5) (rt := .int) (by decide +kernel) rfl (Nat.le_of_ble_eq_true rfl) ?_
  intro p e s m args below meth c sl9 Q Z hl9 hret
  have Z : CallFix p m c cX6_acted 5 s args wsX6_acted RX6 := Z
  have hx := Z.1
  have hb := Z.2.1
  have hts := Z.2.2.2.2
  generalize hH : s.heap = Hp9 at hret ⊢
  have hl9 : lv_has sl9 5 [(0, .int (q)), (1, .int (nI (a)))] := hl9
  refine lv_iconst (v := 0) hx hb dX6_acted_0 (by decide) ?_
  refine lv_istore_n (lv' := [(2, .int 0), (0, .int (q)), (1, .int (nI (a)))]) hx hb dX6_acted_1 rfl hl9 (by decide) rfl (fun sl9 hl9 => ?_)
  refine lv_iconst (v := 0) hx hb dX6_acted_2 (by decide) ?_
  refine lv_istore_n (lv' := [(3, .int 0), (2, .int 0), (0, .int (q)), (1, .int (nI (a)))]) hx hb dX6_acted_3 rfl hl9 (by decide) rfl (fun sl9 hl9 => ?_)
  have LP4_1 : ∀ (n4 k : Nat), k + n4 = 8 → ∀ (sl9 : Array Slot), True → lv_has sl9 5 [(0, .int (q)), (1, .int (nI (a))), (2, .int (actI q a (k))), (3, .int (nI (k)))] → W p l e (zrm 0 0) s m args below meth c Hp9 [] 0 0 Q (F0 m 4 sl9 []) := by
    intro n4
    induction n4 with
    | zero =>
      intro k hk9 sl9 Mz9 hl9
      obtain rfl : 8 = k := by omega
      refine lv_iload_n hx hb dX6_acted_4 rfl (lv_at hl9 3 rfl) ?_
      refine lv_bipush (v := 8) hx hb dX6_acted_5 (by decide) ?_
      refine zn_icmp_ge (a := 8) (b := 8) (tgt := 75) (by omega) (by decide) hx hb dX6_acted_7 (by decide) (fun _ => ?_) (fun h => absurd h (by omega))
      refine lv_iload_n hx hb dX6_acted_75 rfl (lv_at hl9 2 rfl) ?_
      exact hret _ sl9 _ (rfl) (rfl) dX6_acted_76
    | succ n4 ih4 =>
      intro k hk9 sl9 Mz9 hl9
      refine lv_iload_n hx hb dX6_acted_4 rfl (lv_at hl9 3 rfl) ?_
      refine lv_bipush (v := 8) hx hb dX6_acted_5 (by decide) ?_
      refine zn_icmp_ge (a := k) (b := 8) (tgt := 75) (by omega) (by decide) hx hb dX6_acted_7 (by decide) (fun h => absurd h (by omega)) (fun _ => ?_)
      refine lv_iload_n hx hb dX6_acted_10 rfl (lv_at hl9 1 rfl) ?_
      refine zn_if_ne (a := a) (tgt := 36) (by omega) hx hb dX6_acted_11 (by decide) (fun c_1 => ?_) (fun c_1 => ?_)
      ·
        refine lv_iload_n hx hb dX6_acted_36 rfl (lv_at hl9 1 rfl) ?_
        refine lv_iconst (v := 1) hx hb dX6_acted_37 (by decide) ?_
        refine zn_icmp_ne (a := a) (b := 1) (tgt := 50) (by omega) (by decide) hx hb dX6_acted_38 (by decide) (fun c_2 => ?_) (fun c_2 => ?_)
        ·
          refine lv_iload_n hx hb dX6_acted_50 rfl (lv_at hl9 3 rfl) ?_
          refine lv_iconst (v := 4) hx hb dX6_acted_51 (by decide) ?_
          refine zn_iadd (a := k) (b := 4) hx hb dX6_acted_52 ?_
          refine lv_bipush (v := 8) hx hb dX6_acted_53 (by decide) ?_
          refine zn_irem (a := k + 4) (b := 8) (by omega) (by decide) (by decide) hx hb dX6_acted_55 ?_
          refine lv_istore (lv' := [(4, .int (nI ((k + 4) % 8))), (0, .int (q)), (1, .int (nI (a))), (2, .int (actI q a (k))), (3, .int (nI (k)))]) hx hb dX6_acted_56 hl9 (by decide) rfl (fun sl9 hl9 => ?_)
          refine lv_iload_n hx hb dX6_acted_58 rfl (lv_at hl9 3 rfl) ?_
          refine lv_iload_n hx hb dX6_acted_59 rfl (lv_at hl9 1 rfl) ?_
          refine lv_iload_n hx hb dX6_acted_60 rfl (lv_at hl9 4 rfl) ?_
          refine lv_ishr hx hb dX6_acted_61 ?_
          refine lv_iconst (v := 1) hx hb dX6_acted_62 (by decide) ?_
          refine lv_iand hx hb dX6_acted_63 ?_
          refine lv_iload hx hb dX6_acted_64 (lv_at hl9 0 rfl) ?_
          refine lv_ishl hx hb dX6_acted_66 ?_
          refine lv_ior hx hb dX6_acted_67 ?_
          refine lv_istore_n (lv' := [(2, .int ((actI q a (k)) ||| (((q >>> ((nI (k)) &&& 31)) &&& 1) <<< ((nI ((k + 4) % 8)) &&& 31)))), (4, .int (nI ((k + 4) % 8))), (0, .int (q)), (1, .int (nI (a))), (3, .int (nI (k)))]) hx hb dX6_acted_68 rfl hl9 (by decide) rfl (fun sl9 hl9 => ?_)
          refine lv_iinc (v := nI (k + 1)) (lv' := [(3, .int (nI (k + 1))), (2, .int ((actI q a (k)) ||| (((q >>> ((nI (k)) &&& 31)) &&& 1) <<< ((nI ((k + 4) % 8)) &&& 31)))), (4, .int (nI ((k + 4) % 8))), (0, .int (q)), (1, .int (nI (a)))]) hx hb dX6_acted_69 hl9 (k := 4) rfl (nI_add (k) 1) (by decide) rfl (fun sl9 hl9 => ?_)
          refine lv_goto (tgt := 4) hx hb dX6_acted_72 (by decide) ?_
          exact ih4 (k + 1) (by omega)  _ trivial (lv_w (show ([(0, .int (q)), (1, .int (nI (a))), (2, .int ((actI q a (k)) ||| (((q >>> ((nI (k)) &&& 31)) &&& 1) <<< ((nI ((k + 4) % 8)) &&& 31)))), (3, .int (nI (k + 1)))] : List (Nat × Value)) = [(0, .int (q)), (1, .int (nI (a))), (2, .int (actI q a (k + 1))), (3, .int (nI (k + 1)))] from by simp only [actI, actT, if_neg c_1, if_neg c_2]) (lv_sub hl9 [3, 4, 1, 0] rfl))
        ·
          refine lv_iload_n hx hb dX6_acted_41 rfl (lv_at hl9 3 rfl) ?_
          refine lv_iconst (v := 1) hx hb dX6_acted_42 (by decide) ?_
          refine zn_iadd (a := k) (b := 1) hx hb dX6_acted_43 ?_
          refine lv_bipush (v := 8) hx hb dX6_acted_44 (by decide) ?_
          refine zn_irem (a := k + 1) (b := 8) (by omega) (by decide) (by decide) hx hb dX6_acted_46 ?_
          refine lv_goto (tgt := 56) hx hb dX6_acted_47 (by decide) ?_
          refine lv_istore (lv' := [(4, .int (nI ((k + 1) % 8))), (0, .int (q)), (1, .int (nI (a))), (2, .int (actI q a (k))), (3, .int (nI (k)))]) hx hb dX6_acted_56 hl9 (by decide) rfl (fun sl9 hl9 => ?_)
          refine lv_iload_n hx hb dX6_acted_58 rfl (lv_at hl9 3 rfl) ?_
          refine lv_iload_n hx hb dX6_acted_59 rfl (lv_at hl9 1 rfl) ?_
          refine lv_iload_n hx hb dX6_acted_60 rfl (lv_at hl9 4 rfl) ?_
          refine lv_ishr hx hb dX6_acted_61 ?_
          refine lv_iconst (v := 1) hx hb dX6_acted_62 (by decide) ?_
          refine lv_iand hx hb dX6_acted_63 ?_
          refine lv_iload hx hb dX6_acted_64 (lv_at hl9 0 rfl) ?_
          refine lv_ishl hx hb dX6_acted_66 ?_
          refine lv_ior hx hb dX6_acted_67 ?_
          refine lv_istore_n (lv' := [(2, .int ((actI q a (k)) ||| (((q >>> ((nI (k)) &&& 31)) &&& 1) <<< ((nI ((k + 1) % 8)) &&& 31)))), (4, .int (nI ((k + 1) % 8))), (0, .int (q)), (1, .int (nI (a))), (3, .int (nI (k)))]) hx hb dX6_acted_68 rfl hl9 (by decide) rfl (fun sl9 hl9 => ?_)
          refine lv_iinc (v := nI (k + 1)) (lv' := [(3, .int (nI (k + 1))), (2, .int ((actI q a (k)) ||| (((q >>> ((nI (k)) &&& 31)) &&& 1) <<< ((nI ((k + 1) % 8)) &&& 31)))), (4, .int (nI ((k + 1) % 8))), (0, .int (q)), (1, .int (nI (a)))]) hx hb dX6_acted_69 hl9 (k := 4) rfl (nI_add (k) 1) (by decide) rfl (fun sl9 hl9 => ?_)
          refine lv_goto (tgt := 4) hx hb dX6_acted_72 (by decide) ?_
          exact ih4 (k + 1) (by omega)  _ trivial (lv_w (show ([(0, .int (q)), (1, .int (nI (a))), (2, .int ((actI q a (k)) ||| (((q >>> ((nI (k)) &&& 31)) &&& 1) <<< ((nI ((k + 1) % 8)) &&& 31)))), (3, .int (nI (k + 1)))] : List (Nat × Value)) = [(0, .int (q)), (1, .int (nI (a))), (2, .int (actI q a (k + 1))), (3, .int (nI (k + 1)))] from by simp only [actI, actT, if_neg c_1, if_pos c_2]) (lv_sub hl9 [3, 4, 1, 0] rfl))
      ·
        refine lv_iload_n hx hb dX6_acted_14 rfl (lv_at hl9 3 rfl) ?_
        refine lv_iconst (v := 4) hx hb dX6_acted_15 (by decide) ?_
        refine zn_icmp_ge (a := k) (b := 4) (tgt := 25) (by omega) (by decide) hx hb dX6_acted_16 (by decide) (fun c_3 => ?_) (fun c_3 => ?_)
        ·
          refine lv_iconst (v := 2) hx hb dX6_acted_25 (by decide) ?_
          refine lv_bipush (v := 7) hx hb dX6_acted_26 (by decide) ?_
          refine lv_iload_n hx hb dX6_acted_28 rfl (lv_at hl9 3 rfl) ?_
          refine zn_isub (a := 7) (b := k) (by omega) hx hb dX6_acted_29 ?_
          refine zn_imul (a := 2) (b := 7 - k) hx hb dX6_acted_30 ?_
          refine lv_iconst (v := 1) hx hb dX6_acted_31 (by decide) ?_
          refine zn_iadd (a := 2 * (7 - k)) (b := 1) hx hb dX6_acted_32 ?_
          refine lv_goto (tgt := 56) hx hb dX6_acted_33 (by decide) ?_
          refine lv_istore (lv' := [(4, .int (nI ((2 * (7 - k)) + 1))), (0, .int (q)), (1, .int (nI (a))), (2, .int (actI q a (k))), (3, .int (nI (k)))]) hx hb dX6_acted_56 hl9 (by decide) rfl (fun sl9 hl9 => ?_)
          refine lv_iload_n hx hb dX6_acted_58 rfl (lv_at hl9 3 rfl) ?_
          refine lv_iload_n hx hb dX6_acted_59 rfl (lv_at hl9 1 rfl) ?_
          refine lv_iload_n hx hb dX6_acted_60 rfl (lv_at hl9 4 rfl) ?_
          refine lv_ishr hx hb dX6_acted_61 ?_
          refine lv_iconst (v := 1) hx hb dX6_acted_62 (by decide) ?_
          refine lv_iand hx hb dX6_acted_63 ?_
          refine lv_iload hx hb dX6_acted_64 (lv_at hl9 0 rfl) ?_
          refine lv_ishl hx hb dX6_acted_66 ?_
          refine lv_ior hx hb dX6_acted_67 ?_
          refine lv_istore_n (lv' := [(2, .int ((actI q a (k)) ||| (((q >>> ((nI (k)) &&& 31)) &&& 1) <<< ((nI ((2 * (7 - k)) + 1)) &&& 31)))), (4, .int (nI ((2 * (7 - k)) + 1))), (0, .int (q)), (1, .int (nI (a))), (3, .int (nI (k)))]) hx hb dX6_acted_68 rfl hl9 (by decide) rfl (fun sl9 hl9 => ?_)
          refine lv_iinc (v := nI (k + 1)) (lv' := [(3, .int (nI (k + 1))), (2, .int ((actI q a (k)) ||| (((q >>> ((nI (k)) &&& 31)) &&& 1) <<< ((nI ((2 * (7 - k)) + 1)) &&& 31)))), (4, .int (nI ((2 * (7 - k)) + 1))), (0, .int (q)), (1, .int (nI (a)))]) hx hb dX6_acted_69 hl9 (k := 4) rfl (nI_add (k) 1) (by decide) rfl (fun sl9 hl9 => ?_)
          refine lv_goto (tgt := 4) hx hb dX6_acted_72 (by decide) ?_
          exact ih4 (k + 1) (by omega)  _ trivial (lv_w (show ([(0, .int (q)), (1, .int (nI (a))), (2, .int ((actI q a (k)) ||| (((q >>> ((nI (k)) &&& 31)) &&& 1) <<< ((nI ((2 * (7 - k)) + 1)) &&& 31)))), (3, .int (nI (k + 1)))] : List (Nat × Value)) = [(0, .int (q)), (1, .int (nI (a))), (2, .int (actI q a (k + 1))), (3, .int (nI (k + 1)))] from by simp only [actI, actT, if_pos c_1, if_neg (Nat.not_lt.mpr c_3)]) (lv_sub hl9 [3, 4, 1, 0] rfl))
        ·
          refine lv_iconst (v := 2) hx hb dX6_acted_19 (by decide) ?_
          refine lv_iload_n hx hb dX6_acted_20 rfl (lv_at hl9 3 rfl) ?_
          refine zn_imul (a := 2) (b := k) hx hb dX6_acted_21 ?_
          refine lv_goto (tgt := 56) hx hb dX6_acted_22 (by decide) ?_
          refine lv_istore (lv' := [(4, .int (nI (2 * k))), (0, .int (q)), (1, .int (nI (a))), (2, .int (actI q a (k))), (3, .int (nI (k)))]) hx hb dX6_acted_56 hl9 (by decide) rfl (fun sl9 hl9 => ?_)
          refine lv_iload_n hx hb dX6_acted_58 rfl (lv_at hl9 3 rfl) ?_
          refine lv_iload_n hx hb dX6_acted_59 rfl (lv_at hl9 1 rfl) ?_
          refine lv_iload_n hx hb dX6_acted_60 rfl (lv_at hl9 4 rfl) ?_
          refine lv_ishr hx hb dX6_acted_61 ?_
          refine lv_iconst (v := 1) hx hb dX6_acted_62 (by decide) ?_
          refine lv_iand hx hb dX6_acted_63 ?_
          refine lv_iload hx hb dX6_acted_64 (lv_at hl9 0 rfl) ?_
          refine lv_ishl hx hb dX6_acted_66 ?_
          refine lv_ior hx hb dX6_acted_67 ?_
          refine lv_istore_n (lv' := [(2, .int ((actI q a (k)) ||| (((q >>> ((nI (k)) &&& 31)) &&& 1) <<< ((nI (2 * k)) &&& 31)))), (4, .int (nI (2 * k))), (0, .int (q)), (1, .int (nI (a))), (3, .int (nI (k)))]) hx hb dX6_acted_68 rfl hl9 (by decide) rfl (fun sl9 hl9 => ?_)
          refine lv_iinc (v := nI (k + 1)) (lv' := [(3, .int (nI (k + 1))), (2, .int ((actI q a (k)) ||| (((q >>> ((nI (k)) &&& 31)) &&& 1) <<< ((nI (2 * k)) &&& 31)))), (4, .int (nI (2 * k))), (0, .int (q)), (1, .int (nI (a)))]) hx hb dX6_acted_69 hl9 (k := 4) rfl (nI_add (k) 1) (by decide) rfl (fun sl9 hl9 => ?_)
          refine lv_goto (tgt := 4) hx hb dX6_acted_72 (by decide) ?_
          exact ih4 (k + 1) (by omega)  _ trivial (lv_w (show ([(0, .int (q)), (1, .int (nI (a))), (2, .int ((actI q a (k)) ||| (((q >>> ((nI (k)) &&& 31)) &&& 1) <<< ((nI (2 * k)) &&& 31)))), (3, .int (nI (k + 1)))] : List (Nat × Value)) = [(0, .int (q)), (1, .int (nI (a))), (2, .int (actI q a (k + 1))), (3, .int (nI (k + 1)))] from by simp only [actI, actT, if_pos c_1, if_pos (Nat.not_le.mp c_3)]) (lv_sub hl9 [3, 4, 1, 0] rfl))
  exact LP4_1 (8 - 0) (0) (by omega)  _ trivial (lv_sub hl9 [2, 3, 1, 0] rfl)
set_option maxHeartbeats 4000000 in
set_option maxRecDepth 100000 in
theorem cm_between (l : Launch) (a b : Int32) : ZS l yX6_between wsX6_between (zrm 0 0) [.int (a), .int (b)] (btw a b) := by
  refine z_inS (cc := cX6_between) (maxL := 2) (rt := .int) (by decide +kernel) rfl (Nat.le_of_ble_eq_true rfl) ?_
  intro p e s m args below meth c sl9 Q Z hl9 hret
  have Z : CallFix p m c cX6_between 2 s args wsX6_between RX6 := Z
  have hx := Z.1
  have hb := Z.2.1
  have hts := Z.2.2.2.2
  generalize hH : s.heap = Hp9 at hret ⊢
  have hl9 : lv_has sl9 2 [(0, .int (a)), (1, .int (b))] := hl9
  refine lv_iload_n hx hb dX6_between_0 rfl (lv_at hl9 0 rfl) ?_
  refine lv_iload_n hx hb dX6_between_1 rfl (lv_at hl9 1 rfl) ?_
  refine lv_icmp_ge (tgt := 11) hx hb dX6_between_2 (by decide) (fun c_1 => ?_) (fun c_1 => ?_)
  ·
    refine lv_iload_n hx hb dX6_between_11 rfl (lv_at hl9 0 rfl) ?_
    refine lv_iload_n hx hb dX6_between_12 rfl (lv_at hl9 1 rfl) ?_
    refine lv_isub hx hb dX6_between_13 ?_
    exact hret _ sl9 _ (by simp only [btw, if_neg (Int32.not_lt.mpr c_1)]) (rfl) dX6_between_14
  ·
    refine lv_iload_n hx hb dX6_between_5 rfl (lv_at hl9 1 rfl) ?_
    refine lv_iload_n hx hb dX6_between_6 rfl (lv_at hl9 0 rfl) ?_
    refine lv_isub hx hb dX6_between_7 ?_
    refine lv_goto (tgt := 14) hx hb dX6_between_8 (by decide) ?_
    exact hret _ sl9 _ (by simp only [btw, if_pos (Int32.not_le.mp c_1)]) (rfl) dX6_between_14
set_option maxHeartbeats 4000000 in
set_option maxRecDepth 100000 in
theorem cm_canQuench (l : Launch) (D : va_G) (T : Nat → ClassId) (o : Nat) (ad : Nat → Nat) (σ : Nat → Nat → Int32) (nb : Nat) (set : Int32) (hnb : nb ≤ 12) (h5 : σ 5 0 = nI nb) : ZI l yX6_canQuench wsX6_canQuench (zrm 0 0) D T (mW o ad T σ) (mW o ad T σ) [.ref o, .int (set)] (cqB (σ 10) (σ 14) set nb (if σ 24 0 < 20 then 1 else 0)) 0 0 := by
  refine z_inI (cc := cX6_canQuench) (maxL := 4) (rt := .boolean) (by decide +kernel) rfl (Nat.le_of_ble_eq_true rfl) ?_
  intro p e s m args below meth c sl9 A Q Z hnm Mz9 hl9 hret
  have Z : zC p s m args c cX6_canQuench 4 RX6 wsX6_canQuench D T A := Z
  have hx := Z.1.1
  have hb := Z.1.2.1
  have hts := Z.1.2.2.2.2
  have hin6 : ∀ w ∈ wsX60, w ∈ wsX6_canQuench := fun w h => List.mem_cons_of_mem _ (List.mem_append_right _ h)
  have hH0 : s.heap = s.heap := rfl
  have L161 := hts (.fieldLink RX6 161 "AnvilHouseModel" "loads" "I") (by decide +kernel)
  have L93 := hts (.fieldLink RX6 93 "AnvilHouseModel" "billets" "I") (by decide +kernel)
  have L34 := hts (.fieldLink RX6 34 "AnvilHouseModel" "core" "[I") (by decide +kernel)
  have L46 := hts (.fieldLink RX6 46 "AnvilHouseModel" "hasCrack" "[Z") (by decide +kernel)
  have hl9 : lv_has sl9 4 [(0, .ref o), (1, .int (set))] := hl9
  refine lv_aload_n hx hb dX6_canQuench_0 rfl (lv_at hl9 0 rfl) ?_
  refine z_getf Z Mz9 hin6 0 rfl rfl 24 (by decide) L161 rfl (v := .int (σ 24 0)) rfl dX6_canQuench_1 ?_
  refine lv_bipush (v := 20) hx hb dX6_canQuench_4 (by decide) ?_
  refine lv_icmp_ge (tgt := 13) hx hb dX6_canQuench_6 (by decide) (fun c_1 => ?_) (fun c_1 => ?_)
  ·
    refine lv_iconst (v := 0) hx hb dX6_canQuench_13 (by decide) ?_
    refine lv_istore_n (lv' := [(2, .int 0), (0, .ref o), (1, .int (set))]) hx hb dX6_canQuench_14 rfl hl9 (by decide) rfl (fun sl9 hl9 => ?_)
    refine lv_iconst (v := 0) hx hb dX6_canQuench_15 (by decide) ?_
    refine lv_istore_n (lv' := [(3, .int 0), (2, .int 0), (0, .ref o), (1, .int (set))]) hx hb dX6_canQuench_16 rfl hl9 (by decide) rfl (fun sl9 hl9 => ?_)
    have LP17_1 : ∀ (n17 k : Nat), k + n17 = nb → ∀ (Hp9 : Heap) (lc9 : List Loc) (sl9 : Array Slot), zM D A s.heap (mW o ad T σ) Hp9 lc9 → lv_has sl9 4 [(0, .ref o), (1, .int (set)), (2, .int (cqB (σ 10) (σ 14) set (k) (if σ 24 0 < 20 then 1 else 0))), (3, .int (nI (k)))] → W p l e (zrm 0 0) s m args below meth c Hp9 lc9 0 0 Q (F0 m 17 sl9 []) := by
      intro n17
      induction n17 with
      | zero =>
        intro k hk9 Hp9 lc9 sl9 Mz9 hl9
        obtain rfl : nb = k := by omega
        refine lv_iload_n hx hb dX6_canQuench_17 rfl (lv_at hl9 3 rfl) ?_
        refine lv_aload_n hx hb dX6_canQuench_18 rfl (lv_at hl9 0 rfl) ?_
        refine z_getf Z Mz9 hin6 0 rfl rfl 5 (by decide) L93 rfl (v := .int (σ 5 0)) rfl dX6_canQuench_19 ?_
        refine zn_top (y := nI (nb)) (h5) ?_
        refine zn_icmp_ge (a := nb) (b := nb) (tgt := 70) (by omega) (by omega) hx hb dX6_canQuench_22 (by decide) (fun _ => ?_) (fun h => absurd h (by omega))
        refine lv_iload_n hx hb dX6_canQuench_70 rfl (lv_at hl9 2 rfl) ?_
        exact hret _ _ _ _ _ sl9 _ _ Mz9 (rfl) (rfl) (cqB_n _ _ _ _ _ (by split <;> rfl)) (Nat.le_refl _) (Nat.le_refl _) dX6_canQuench_71
      | succ n17 ih17 =>
        intro k hk9 Hp9 lc9 sl9 Mz9 hl9
        refine lv_iload_n hx hb dX6_canQuench_17 rfl (lv_at hl9 3 rfl) ?_
        refine lv_aload_n hx hb dX6_canQuench_18 rfl (lv_at hl9 0 rfl) ?_
        refine z_getf Z Mz9 hin6 0 rfl rfl 5 (by decide) L93 rfl (v := .int (σ 5 0)) rfl dX6_canQuench_19 ?_
        refine zn_top (y := nI (nb)) (h5) ?_
        refine zn_icmp_ge (a := k) (b := nb) (tgt := 70) (by omega) (by omega) hx hb dX6_canQuench_22 (by decide) (fun h => absurd h (by omega)) (fun _ => ?_)
        refine lv_iload_n hx hb dX6_canQuench_25 rfl (lv_at hl9 2 rfl) ?_
        refine lv_if_eq (tgt := 62) hx hb dX6_canQuench_26 (by decide) (fun c_2 => ?_) (fun c_2 => ?_)
        ·
          refine lv_iconst (v := 0) hx hb dX6_canQuench_62 (by decide) ?_
          refine lv_istore_n (lv' := [(2, .int 0), (0, .ref o), (1, .int (set)), (3, .int (nI (k)))]) hx hb dX6_canQuench_63 rfl hl9 (by decide) rfl (fun sl9 hl9 => ?_)
          refine lv_iinc (v := nI (k + 1)) (lv' := [(3, .int (nI (k + 1))), (2, .int 0), (0, .ref o), (1, .int (set))]) hx hb dX6_canQuench_64 hl9 (k := 3) rfl (nI_add (k) 1) (by decide) rfl (fun sl9 hl9 => ?_)
          refine lv_goto (tgt := 17) hx hb dX6_canQuench_67 (by decide) ?_
          exact ih17 (k + 1) (by omega)  _ _ _ Mz9 (lv_w (show ([(0, .ref o), (1, .int (set)), (2, .int 0), (3, .int (nI (k + 1)))] : List (Nat × Value)) = [(0, .ref o), (1, .int (set)), (2, .int (cqB (σ 10) (σ 14) set (k + 1) (if σ 24 0 < 20 then 1 else 0))), (3, .int (nI (k + 1)))] from by simp only [cqB, if_pos c_2]) (lv_sub hl9 [2, 3, 1, 0] rfl))
        ·
          refine lv_iload_n hx hb dX6_canQuench_29 rfl (lv_at hl9 1 rfl) ?_
          refine lv_iload_n hx hb dX6_canQuench_30 rfl (lv_at hl9 3 rfl) ?_
          refine lv_ishr hx hb dX6_canQuench_31 ?_
          refine lv_iconst (v := 1) hx hb dX6_canQuench_32 (by decide) ?_
          refine lv_iand hx hb dX6_canQuench_33 ?_
          refine lv_if_eq (tgt := 58) hx hb dX6_canQuench_34 (by decide) (fun c_3 => ?_) (fun c_3 => ?_)
          ·
            refine lv_iconst (v := 1) hx hb dX6_canQuench_58 (by decide) ?_
            refine lv_goto (tgt := 63) hx hb dX6_canQuench_59 (by decide) ?_
            refine lv_istore_n (lv' := [(2, .int 1), (0, .ref o), (1, .int (set)), (3, .int (nI (k)))]) hx hb dX6_canQuench_63 rfl hl9 (by decide) rfl (fun sl9 hl9 => ?_)
            refine lv_iinc (v := nI (k + 1)) (lv' := [(3, .int (nI (k + 1))), (2, .int 1), (0, .ref o), (1, .int (set))]) hx hb dX6_canQuench_64 hl9 (k := 3) rfl (nI_add (k) 1) (by decide) rfl (fun sl9 hl9 => ?_)
            refine lv_goto (tgt := 17) hx hb dX6_canQuench_67 (by decide) ?_
            exact ih17 (k + 1) (by omega)  _ _ _ Mz9 (lv_w (show ([(0, .ref o), (1, .int (set)), (2, .int 1), (3, .int (nI (k + 1)))] : List (Nat × Value)) = [(0, .ref o), (1, .int (set)), (2, .int (cqB (σ 10) (σ 14) set (k + 1) (if σ 24 0 < 20 then 1 else 0))), (3, .int (nI (k + 1)))] from by simp only [cqB, if_neg c_2, if_pos c_3]) (lv_sub hl9 [2, 3, 1, 0] rfl))
          ·
            refine lv_aload_n hx hb dX6_canQuench_37 rfl (lv_at hl9 0 rfl) ?_
            refine z_getf Z Mz9 hin6 0 rfl rfl 10 (by decide) L34 rfl (v := .ref (ad 10)) rfl dX6_canQuench_38 ?_
            refine lv_iload_n hx hb dX6_canQuench_41 rfl (lv_at hl9 3 rfl) ?_
            refine z_iald Z Mz9 9 (h0 := ad 10) (n := 12) (f := σ 10) rfl (j := k) (by omega) (by decide) dX6_canQuench_42 ?_
            refine lv_sipush (v := 800) hx hb dX6_canQuench_43 (by decide) ?_
            refine lv_icmp_lt (tgt := 62) hx hb dX6_canQuench_46 (by decide) (fun c_4 => ?_) (fun c_4 => ?_)
            ·
              refine lv_iconst (v := 0) hx hb dX6_canQuench_62 (by decide) ?_
              refine lv_istore_n (lv' := [(2, .int 0), (0, .ref o), (1, .int (set)), (3, .int (nI (k)))]) hx hb dX6_canQuench_63 rfl hl9 (by decide) rfl (fun sl9 hl9 => ?_)
              refine lv_iinc (v := nI (k + 1)) (lv' := [(3, .int (nI (k + 1))), (2, .int 0), (0, .ref o), (1, .int (set))]) hx hb dX6_canQuench_64 hl9 (k := 3) rfl (nI_add (k) 1) (by decide) rfl (fun sl9 hl9 => ?_)
              refine lv_goto (tgt := 17) hx hb dX6_canQuench_67 (by decide) ?_
              exact ih17 (k + 1) (by omega)  _ _ _ Mz9 (lv_w (show ([(0, .ref o), (1, .int (set)), (2, .int 0), (3, .int (nI (k + 1)))] : List (Nat × Value)) = [(0, .ref o), (1, .int (set)), (2, .int (cqB (σ 10) (σ 14) set (k + 1) (if σ 24 0 < 20 then 1 else 0))), (3, .int (nI (k + 1)))] from by simp only [cqB, if_neg c_2, if_neg c_3, if_pos c_4]) (lv_sub hl9 [2, 3, 1, 0] rfl))
            ·
              refine lv_aload_n hx hb dX6_canQuench_49 rfl (lv_at hl9 0 rfl) ?_
              refine z_getf Z Mz9 hin6 0 rfl rfl 14 (by decide) L46 rfl (v := .ref (ad 14)) rfl dX6_canQuench_50 ?_
              refine lv_iload_n hx hb dX6_canQuench_53 rfl (lv_at hl9 3 rfl) ?_
              refine z_zald Z Mz9 13 (h0 := ad 14) (n := 12) (f := σ 14) rfl (j := k) (by omega) (by decide) dX6_canQuench_54 ?_
              refine lv_if_ne (tgt := 62) hx hb dX6_canQuench_55 (by decide) (fun c_5 => ?_) (fun c_5 => ?_)
              ·
                refine lv_iconst (v := 0) hx hb dX6_canQuench_62 (by decide) ?_
                refine lv_istore_n (lv' := [(2, .int 0), (0, .ref o), (1, .int (set)), (3, .int (nI (k)))]) hx hb dX6_canQuench_63 rfl hl9 (by decide) rfl (fun sl9 hl9 => ?_)
                refine lv_iinc (v := nI (k + 1)) (lv' := [(3, .int (nI (k + 1))), (2, .int 0), (0, .ref o), (1, .int (set))]) hx hb dX6_canQuench_64 hl9 (k := 3) rfl (nI_add (k) 1) (by decide) rfl (fun sl9 hl9 => ?_)
                refine lv_goto (tgt := 17) hx hb dX6_canQuench_67 (by decide) ?_
                exact ih17 (k + 1) (by omega)  _ _ _ Mz9 (lv_w (show ([(0, .ref o), (1, .int (set)), (2, .int 0), (3, .int (nI (k + 1)))] : List (Nat × Value)) = [(0, .ref o), (1, .int (set)), (2, .int (cqB (σ 10) (σ 14) set (k + 1) (if σ 24 0 < 20 then 1 else 0))), (3, .int (nI (k + 1)))] from by simp only [cqB, if_neg c_2, if_neg c_3, if_neg c_4, if_neg c_5]) (lv_sub hl9 [2, 3, 1, 0] rfl))
              ·
                refine lv_iconst (v := 1) hx hb dX6_canQuench_58 (by decide) ?_
                refine lv_goto (tgt := 63) hx hb dX6_canQuench_59 (by decide) ?_
                refine lv_istore_n (lv' := [(2, .int 1), (0, .ref o), (1, .int (set)), (3, .int (nI (k)))]) hx hb dX6_canQuench_63 rfl hl9 (by decide) rfl (fun sl9 hl9 => ?_)
                refine lv_iinc (v := nI (k + 1)) (lv' := [(3, .int (nI (k + 1))), (2, .int 1), (0, .ref o), (1, .int (set))]) hx hb dX6_canQuench_64 hl9 (k := 3) rfl (nI_add (k) 1) (by decide) rfl (fun sl9 hl9 => ?_)
                refine lv_goto (tgt := 17) hx hb dX6_canQuench_67 (by decide) ?_
                exact ih17 (k + 1) (by omega)  _ _ _ Mz9 (lv_w (show ([(0, .ref o), (1, .int (set)), (2, .int 1), (3, .int (nI (k + 1)))] : List (Nat × Value)) = [(0, .ref o), (1, .int (set)), (2, .int (cqB (σ 10) (σ 14) set (k + 1) (if σ 24 0 < 20 then 1 else 0))), (3, .int (nI (k + 1)))] from by simp only [cqB, if_neg c_2, if_neg c_3, if_neg c_4, if_pos c_5]) (lv_sub hl9 [2, 3, 1, 0] rfl))
    exact LP17_1 (nb - 0) (0) (by omega)  _ _ _ Mz9 (lv_w (show ([(0, .ref o), (1, .int (set)), (2, .int 0), (3, .int 0)] : List (Nat × Value)) = [(0, .ref o), (1, .int (set)), (2, .int (cqB (σ 10) (σ 14) set (0) (if σ 24 0 < 20 then 1 else 0))), (3, .int (nI (0)))] from by simp only [cqB, if_neg (Int32.not_lt.mpr c_1)] <;> rfl) (lv_sub hl9 [2, 3, 1, 0] rfl))
  ·
    refine lv_iconst (v := 1) hx hb dX6_canQuench_9 (by decide) ?_
    refine lv_goto (tgt := 14) hx hb dX6_canQuench_10 (by decide) ?_
    refine lv_istore_n (lv' := [(2, .int 1), (0, .ref o), (1, .int (set))]) hx hb dX6_canQuench_14 rfl hl9 (by decide) rfl (fun sl9 hl9 => ?_)
    refine lv_iconst (v := 0) hx hb dX6_canQuench_15 (by decide) ?_
    refine lv_istore_n (lv' := [(3, .int 0), (2, .int 1), (0, .ref o), (1, .int (set))]) hx hb dX6_canQuench_16 rfl hl9 (by decide) rfl (fun sl9 hl9 => ?_)
    have LP17_2 : ∀ (n17 k : Nat), k + n17 = nb → ∀ (Hp9 : Heap) (lc9 : List Loc) (sl9 : Array Slot), zM D A s.heap (mW o ad T σ) Hp9 lc9 → lv_has sl9 4 [(0, .ref o), (1, .int (set)), (2, .int (cqB (σ 10) (σ 14) set (k) (if σ 24 0 < 20 then 1 else 0))), (3, .int (nI (k)))] → W p l e (zrm 0 0) s m args below meth c Hp9 lc9 0 0 Q (F0 m 17 sl9 []) := by
      intro n17
      induction n17 with
      | zero =>
        intro k hk9 Hp9 lc9 sl9 Mz9 hl9
        obtain rfl : nb = k := by omega
        refine lv_iload_n hx hb dX6_canQuench_17 rfl (lv_at hl9 3 rfl) ?_
        refine lv_aload_n hx hb dX6_canQuench_18 rfl (lv_at hl9 0 rfl) ?_
        refine z_getf Z Mz9 hin6 0 rfl rfl 5 (by decide) L93 rfl (v := .int (σ 5 0)) rfl dX6_canQuench_19 ?_
        refine zn_top (y := nI (nb)) (h5) ?_
        refine zn_icmp_ge (a := nb) (b := nb) (tgt := 70) (by omega) (by omega) hx hb dX6_canQuench_22 (by decide) (fun _ => ?_) (fun h => absurd h (by omega))
        refine lv_iload_n hx hb dX6_canQuench_70 rfl (lv_at hl9 2 rfl) ?_
        exact hret _ _ _ _ _ sl9 _ _ Mz9 (rfl) (rfl) (cqB_n _ _ _ _ _ (by split <;> rfl)) (Nat.le_refl _) (Nat.le_refl _) dX6_canQuench_71
      | succ n17 ih17 =>
        intro k hk9 Hp9 lc9 sl9 Mz9 hl9
        refine lv_iload_n hx hb dX6_canQuench_17 rfl (lv_at hl9 3 rfl) ?_
        refine lv_aload_n hx hb dX6_canQuench_18 rfl (lv_at hl9 0 rfl) ?_
        refine z_getf Z Mz9 hin6 0 rfl rfl 5 (by decide) L93 rfl (v := .int (σ 5 0)) rfl dX6_canQuench_19 ?_
        refine zn_top (y := nI (nb)) (h5) ?_
        refine zn_icmp_ge (a := k) (b := nb) (tgt := 70) (by omega) (by omega) hx hb dX6_canQuench_22 (by decide) (fun h => absurd h (by omega)) (fun _ => ?_)
        refine lv_iload_n hx hb dX6_canQuench_25 rfl (lv_at hl9 2 rfl) ?_
        refine lv_if_eq (tgt := 62) hx hb dX6_canQuench_26 (by decide) (fun c_6 => ?_) (fun c_6 => ?_)
        ·
          refine lv_iconst (v := 0) hx hb dX6_canQuench_62 (by decide) ?_
          refine lv_istore_n (lv' := [(2, .int 0), (0, .ref o), (1, .int (set)), (3, .int (nI (k)))]) hx hb dX6_canQuench_63 rfl hl9 (by decide) rfl (fun sl9 hl9 => ?_)
          refine lv_iinc (v := nI (k + 1)) (lv' := [(3, .int (nI (k + 1))), (2, .int 0), (0, .ref o), (1, .int (set))]) hx hb dX6_canQuench_64 hl9 (k := 3) rfl (nI_add (k) 1) (by decide) rfl (fun sl9 hl9 => ?_)
          refine lv_goto (tgt := 17) hx hb dX6_canQuench_67 (by decide) ?_
          exact ih17 (k + 1) (by omega)  _ _ _ Mz9 (lv_w (show ([(0, .ref o), (1, .int (set)), (2, .int 0), (3, .int (nI (k + 1)))] : List (Nat × Value)) = [(0, .ref o), (1, .int (set)), (2, .int (cqB (σ 10) (σ 14) set (k + 1) (if σ 24 0 < 20 then 1 else 0))), (3, .int (nI (k + 1)))] from by simp only [cqB, if_pos c_6]) (lv_sub hl9 [2, 3, 1, 0] rfl))
        ·
          refine lv_iload_n hx hb dX6_canQuench_29 rfl (lv_at hl9 1 rfl) ?_
          refine lv_iload_n hx hb dX6_canQuench_30 rfl (lv_at hl9 3 rfl) ?_
          refine lv_ishr hx hb dX6_canQuench_31 ?_
          refine lv_iconst (v := 1) hx hb dX6_canQuench_32 (by decide) ?_
          refine lv_iand hx hb dX6_canQuench_33 ?_
          refine lv_if_eq (tgt := 58) hx hb dX6_canQuench_34 (by decide) (fun c_7 => ?_) (fun c_7 => ?_)
          ·
            refine lv_iconst (v := 1) hx hb dX6_canQuench_58 (by decide) ?_
            refine lv_goto (tgt := 63) hx hb dX6_canQuench_59 (by decide) ?_
            refine lv_istore_n (lv' := [(2, .int 1), (0, .ref o), (1, .int (set)), (3, .int (nI (k)))]) hx hb dX6_canQuench_63 rfl hl9 (by decide) rfl (fun sl9 hl9 => ?_)
            refine lv_iinc (v := nI (k + 1)) (lv' := [(3, .int (nI (k + 1))), (2, .int 1), (0, .ref o), (1, .int (set))]) hx hb dX6_canQuench_64 hl9 (k := 3) rfl (nI_add (k) 1) (by decide) rfl (fun sl9 hl9 => ?_)
            refine lv_goto (tgt := 17) hx hb dX6_canQuench_67 (by decide) ?_
            exact ih17 (k + 1) (by omega)  _ _ _ Mz9 (lv_w (show ([(0, .ref o), (1, .int (set)), (2, .int 1), (3, .int (nI (k + 1)))] : List (Nat × Value)) = [(0, .ref o), (1, .int (set)), (2, .int (cqB (σ 10) (σ 14) set (k + 1) (if σ 24 0 < 20 then 1 else 0))), (3, .int (nI (k + 1)))] from by simp only [cqB, if_neg c_6, if_pos c_7]) (lv_sub hl9 [2, 3, 1, 0] rfl))
          ·
            refine lv_aload_n hx hb dX6_canQuench_37 rfl (lv_at hl9 0 rfl) ?_
            refine z_getf Z Mz9 hin6 0 rfl rfl 10 (by decide) L34 rfl (v := .ref (ad 10)) rfl dX6_canQuench_38 ?_
            refine lv_iload_n hx hb dX6_canQuench_41 rfl (lv_at hl9 3 rfl) ?_
            refine z_iald Z Mz9 9 (h0 := ad 10) (n := 12) (f := σ 10) rfl (j := k) (by omega) (by decide) dX6_canQuench_42 ?_
            refine lv_sipush (v := 800) hx hb dX6_canQuench_43 (by decide) ?_
            refine lv_icmp_lt (tgt := 62) hx hb dX6_canQuench_46 (by decide) (fun c_8 => ?_) (fun c_8 => ?_)
            ·
              refine lv_iconst (v := 0) hx hb dX6_canQuench_62 (by decide) ?_
              refine lv_istore_n (lv' := [(2, .int 0), (0, .ref o), (1, .int (set)), (3, .int (nI (k)))]) hx hb dX6_canQuench_63 rfl hl9 (by decide) rfl (fun sl9 hl9 => ?_)
              refine lv_iinc (v := nI (k + 1)) (lv' := [(3, .int (nI (k + 1))), (2, .int 0), (0, .ref o), (1, .int (set))]) hx hb dX6_canQuench_64 hl9 (k := 3) rfl (nI_add (k) 1) (by decide) rfl (fun sl9 hl9 => ?_)
              refine lv_goto (tgt := 17) hx hb dX6_canQuench_67 (by decide) ?_
              exact ih17 (k + 1) (by omega)  _ _ _ Mz9 (lv_w (show ([(0, .ref o), (1, .int (set)), (2, .int 0), (3, .int (nI (k + 1)))] : List (Nat × Value)) = [(0, .ref o), (1, .int (set)), (2, .int (cqB (σ 10) (σ 14) set (k + 1) (if σ 24 0 < 20 then 1 else 0))), (3, .int (nI (k + 1)))] from by simp only [cqB, if_neg c_6, if_neg c_7, if_pos c_8]) (lv_sub hl9 [2, 3, 1, 0] rfl))
            ·
              refine lv_aload_n hx hb dX6_canQuench_49 rfl (lv_at hl9 0 rfl) ?_
              refine z_getf Z Mz9 hin6 0 rfl rfl 14 (by decide) L46 rfl (v := .ref (ad 14)) rfl dX6_canQuench_50 ?_
              refine lv_iload_n hx hb dX6_canQuench_53 rfl (lv_at hl9 3 rfl) ?_
              refine z_zald Z Mz9 13 (h0 := ad 14) (n := 12) (f := σ 14) rfl (j := k) (by omega) (by decide) dX6_canQuench_54 ?_
              refine lv_if_ne (tgt := 62) hx hb dX6_canQuench_55 (by decide) (fun c_9 => ?_) (fun c_9 => ?_)
              ·
                refine lv_iconst (v := 0) hx hb dX6_canQuench_62 (by decide) ?_
                refine lv_istore_n (lv' := [(2, .int 0), (0, .ref o), (1, .int (set)), (3, .int (nI (k)))]) hx hb dX6_canQuench_63 rfl hl9 (by decide) rfl (fun sl9 hl9 => ?_)
                refine lv_iinc (v := nI (k + 1)) (lv' := [(3, .int (nI (k + 1))), (2, .int 0), (0, .ref o), (1, .int (set))]) hx hb dX6_canQuench_64 hl9 (k := 3) rfl (nI_add (k) 1) (by decide) rfl (fun sl9 hl9 => ?_)
                refine lv_goto (tgt := 17) hx hb dX6_canQuench_67 (by decide) ?_
                exact ih17 (k + 1) (by omega)  _ _ _ Mz9 (lv_w (show ([(0, .ref o), (1, .int (set)), (2, .int 0), (3, .int (nI (k + 1)))] : List (Nat × Value)) = [(0, .ref o), (1, .int (set)), (2, .int (cqB (σ 10) (σ 14) set (k + 1) (if σ 24 0 < 20 then 1 else 0))), (3, .int (nI (k + 1)))] from by simp only [cqB, if_neg c_6, if_neg c_7, if_neg c_8, if_neg c_9]) (lv_sub hl9 [2, 3, 1, 0] rfl))
              ·
                refine lv_iconst (v := 1) hx hb dX6_canQuench_58 (by decide) ?_
                refine lv_goto (tgt := 63) hx hb dX6_canQuench_59 (by decide) ?_
                refine lv_istore_n (lv' := [(2, .int 1), (0, .ref o), (1, .int (set)), (3, .int (nI (k)))]) hx hb dX6_canQuench_63 rfl hl9 (by decide) rfl (fun sl9 hl9 => ?_)
                refine lv_iinc (v := nI (k + 1)) (lv' := [(3, .int (nI (k + 1))), (2, .int 1), (0, .ref o), (1, .int (set))]) hx hb dX6_canQuench_64 hl9 (k := 3) rfl (nI_add (k) 1) (by decide) rfl (fun sl9 hl9 => ?_)
                refine lv_goto (tgt := 17) hx hb dX6_canQuench_67 (by decide) ?_
                exact ih17 (k + 1) (by omega)  _ _ _ Mz9 (lv_w (show ([(0, .ref o), (1, .int (set)), (2, .int 1), (3, .int (nI (k + 1)))] : List (Nat × Value)) = [(0, .ref o), (1, .int (set)), (2, .int (cqB (σ 10) (σ 14) set (k + 1) (if σ 24 0 < 20 then 1 else 0))), (3, .int (nI (k + 1)))] from by simp only [cqB, if_neg c_6, if_neg c_7, if_neg c_8, if_pos c_9]) (lv_sub hl9 [2, 3, 1, 0] rfl))
    exact LP17_2 (nb - 0) (0) (by omega)  _ _ _ Mz9 (lv_w (show ([(0, .ref o), (1, .int (set)), (2, .int 1), (3, .int 0)] : List (Nat × Value)) = [(0, .ref o), (1, .int (set)), (2, .int (cqB (σ 10) (σ 14) set (0) (if σ 24 0 < 20 then 1 else 0))), (3, .int (nI (0)))] from by simp only [cqB, if_pos (Int32.not_le.mp c_1)] <;> rfl) (lv_sub hl9 [2, 3, 1, 0] rfl))
set_option maxHeartbeats 4000000 in
set_option maxRecDepth 100000 in
theorem cm_quenches (l : Launch) (D : va_G) (T : Nat → ClassId) (o : Nat) (ad : Nat → Nat) (σ : Nat → Nat → Int32) (i mo st9 : Nat) (md : Int32) (hi : i < 12) (hm : σ 6 i = nI mo) (hmo : mo < 20) (hs : σ 4 mo = nI st9) (hst : st9 < 4) : ZV l yX6_quenches wsX6_quenches (zrm 1 21) D T (mW o ad T σ) (mW o ad T (upS (upS (upS (upS (upS (upS σ 8 (QQ (σ 7) (σ 8) (8 * i) (σ 1 st9) (σ 2 st9) md)) 9 (upd (σ 9) i 20)) 10 (upd (σ 10) i 20)) 14 (upd (σ 14) i (QC (σ 7) (8 * i) md (σ 14 i)))) 16 (upd (σ 16) i (σ 24 0))) 17 (upd (σ 17) i 0))) [.ref o, .int (nI (i)), .int (md)] 0 0 := by
  simp only [QQ_eq, QC_eq]
  refine z_inV (cc := cX6_quenches) (maxL := 9) (by decide +kernel) rfl (Nat.le_of_ble_eq_true rfl) ?_
  intro p e s m args below meth c sl9 A Q Z hnm Mz9 hl9 hret
  have Z : zC p s m args c cX6_quenches 9 RX6 wsX6_quenches D T A := Z
  have hx := Z.1.1
  have hb := Z.1.2.1
  have hts := Z.1.2.2.2.2
  have hin6 : ∀ w ∈ wsX60, w ∈ wsX6_quenches := fun w h => List.mem_cons_of_mem _ (List.mem_append_right _ h)
  have hH0 : s.heap = s.heap := rfl
  have L25 := hts (.fieldLink RX6 25 "AnvilHouseModel" "areas" "[I") (by decide +kernel)
  have L13 := hts (.fieldLink RX6 13 "AnvilHouseModel" "hard" "[I") (by decide +kernel)
  have L16 := hts (.fieldLink RX6 16 "AnvilHouseModel" "drop" "[I") (by decide +kernel)
  have L28 := hts (.fieldLink RX6 28 "AnvilHouseModel" "quenched" "[I") (by decide +kernel)
  have L46 := hts (.fieldLink RX6 46 "AnvilHouseModel" "hasCrack" "[Z") (by decide +kernel)
  have L56 := hts (.fieldLink RX6 56 "AnvilHouseModel" "tempered" "[I") (by decide +kernel)
  have L53 := hts (.fieldLink RX6 53 "AnvilHouseModel" "load" "[I") (by decide +kernel)
  have L161 := hts (.fieldLink RX6 161 "AnvilHouseModel" "loads" "I") (by decide +kernel)
  have L31 := hts (.fieldLink RX6 31 "AnvilHouseModel" "skin" "[I") (by decide +kernel)
  have L34 := hts (.fieldLink RX6 34 "AnvilHouseModel" "core" "[I") (by decide +kernel)
  have hl9 : lv_has sl9 9 [(0, .ref o), (1, .int (nI (i))), (2, .int (md))] := hl9
  refine lv_aload_n hx hb dX6_quenches_0 rfl (lv_at hl9 0 rfl) ?_
  refine lv_iload_n hx hb dX6_quenches_1 rfl (lv_at hl9 1 rfl) ?_
  refine z_callAi (As := [.int (nI (i))]) (rest := []) (rv := (σ 4) mo) (wc' := mW o ad T σ) Z Mz9 (cm_steelIs l D T o ad (σ) (i) mo (by omega) hm (by omega)) (cwV 1 hts gX6_quenches_X6_steelIs rfl rfl rfl (by decide +kernel) ⟨by decide, by decide⟩) (va_recv Z.2.1 Mz9.1 (ci := 7) (q0 := 0) rfl rfl) rfl hl9.1 (Nat.le_of_ble_eq_true rfl) dX6_quenches_2 ⟨by decide, by decide⟩ rfl (fun Hp9 lc9 Mz9 => ?_)
  refine zn_top (y := nI (st9)) (hs) ?_
  refine lv_istore_n (lv' := [(3, .int (nI (st9))), (0, .ref o), (1, .int (nI (i))), (2, .int (md))]) hx hb dX6_quenches_5 rfl hl9 (by decide) rfl (fun sl9 hl9 => ?_)
  refine lv_iconst (v := 0) hx hb dX6_quenches_6 (by decide) ?_
  refine lv_istore (lv' := [(4, .int 0), (3, .int (nI (st9))), (0, .ref o), (1, .int (nI (i))), (2, .int (md))]) hx hb dX6_quenches_7 hl9 (by decide) rfl (fun sl9 hl9 => ?_)
  have LP9_1 : ∀ (n9 k : Nat), k + n9 = 8 → ∀ (Hp9 : Heap) (lc9 : List Loc) (sl9 : Array Slot), zM D A s.heap (mW o ad T (upS (upS σ 8 (qQ (σ 7) (σ 8) (8 * i) (σ 1 st9) (σ 2 st9) md (k))) 14 (upd (σ 14) i (qC (σ 7) (8 * i) md (σ 14 i) (k))))) Hp9 lc9 → lv_has sl9 9 [(0, .ref o), (1, .int (nI (i))), (2, .int (md)), (3, .int (nI (st9))), (4, .int (nI (k)))] → W p l e (zrm 1 21) s m args below meth c Hp9 lc9 0 0 Q (F0 m 9 sl9 []) := by
    intro n9
    induction n9 with
    | zero =>
      intro k hk9 Hp9 lc9 sl9 Mz9 hl9
      obtain rfl : 8 = k := by omega
      refine lv_iload hx hb dX6_quenches_9 (lv_at hl9 4 rfl) ?_
      refine lv_bipush (v := 8) hx hb dX6_quenches_11 (by decide) ?_
      refine zn_icmp_ge (a := 8) (b := 8) (tgt := 158) (by omega) (by decide) hx hb dX6_quenches_13 (by decide) (fun _ => ?_) (fun h => absurd h (by omega))
      refine lv_aload_n hx hb dX6_quenches_158 rfl (lv_at hl9 0 rfl) ?_
      refine z_getf Z Mz9 hin6 0 rfl rfl 17 (by decide) L56 rfl (v := .ref (ad 17)) rfl dX6_quenches_159 ?_
      refine lv_iload_n hx hb dX6_quenches_162 rfl (lv_at hl9 1 rfl) ?_
      refine lv_iconst (v := 0) hx hb dX6_quenches_163 (by decide) ?_
      refine z_iast Z Mz9 16 (h0 := ad 17) (n := 12) (f := σ 17) rfl (j := i) (x := 0) (by omega) (by decide) (ws' := mW o ad T (upS (upS (upS σ 8 (qQ (σ 7) (σ 8) (8 * i) (σ 1 st9) (σ 2 st9) md (8))) 14 (upd (σ 14) i (qC (σ 7) (8 * i) md (σ 14 i) (8)))) 17 (upd (σ 17) i 0))) rfl dX6_quenches_164 (fun Hp9 lc9 Mz9 => ?_)
      refine lv_aload_n hx hb dX6_quenches_165 rfl (lv_at hl9 0 rfl) ?_
      refine z_getf Z Mz9 hin6 0 rfl rfl 16 (by decide) L53 rfl (v := .ref (ad 16)) rfl dX6_quenches_166 ?_
      refine lv_iload_n hx hb dX6_quenches_169 rfl (lv_at hl9 1 rfl) ?_
      refine lv_aload_n hx hb dX6_quenches_170 rfl (lv_at hl9 0 rfl) ?_
      refine z_getf Z Mz9 hin6 0 rfl rfl 24 (by decide) L161 rfl (v := .int (σ 24 0)) rfl dX6_quenches_171 ?_
      refine z_iast Z Mz9 15 (h0 := ad 16) (n := 12) (f := σ 16) rfl (j := i) (x := σ 24 0) (by omega) (by decide) (ws' := mW o ad T (upS (upS (upS (upS σ 8 (qQ (σ 7) (σ 8) (8 * i) (σ 1 st9) (σ 2 st9) md (8))) 14 (upd (σ 14) i (qC (σ 7) (8 * i) md (σ 14 i) (8)))) 16 (upd (σ 16) i (σ 24 0))) 17 (upd (σ 17) i 0))) rfl dX6_quenches_174 (fun Hp9 lc9 Mz9 => ?_)
      refine lv_aload_n hx hb dX6_quenches_175 rfl (lv_at hl9 0 rfl) ?_
      refine z_getf Z Mz9 hin6 0 rfl rfl 9 (by decide) L31 rfl (v := .ref (ad 9)) rfl dX6_quenches_176 ?_
      refine lv_iload_n hx hb dX6_quenches_179 rfl (lv_at hl9 1 rfl) ?_
      refine lv_bipush (v := 20) hx hb dX6_quenches_180 (by decide) ?_
      refine z_iast Z Mz9 8 (h0 := ad 9) (n := 12) (f := σ 9) rfl (j := i) (x := 20) (by omega) (by decide) (ws' := mW o ad T (upS (upS (upS (upS (upS σ 8 (qQ (σ 7) (σ 8) (8 * i) (σ 1 st9) (σ 2 st9) md (8))) 9 (upd (σ 9) i 20)) 14 (upd (σ 14) i (qC (σ 7) (8 * i) md (σ 14 i) (8)))) 16 (upd (σ 16) i (σ 24 0))) 17 (upd (σ 17) i 0))) rfl dX6_quenches_182 (fun Hp9 lc9 Mz9 => ?_)
      refine lv_aload_n hx hb dX6_quenches_183 rfl (lv_at hl9 0 rfl) ?_
      refine z_getf Z Mz9 hin6 0 rfl rfl 10 (by decide) L34 rfl (v := .ref (ad 10)) rfl dX6_quenches_184 ?_
      refine lv_iload_n hx hb dX6_quenches_187 rfl (lv_at hl9 1 rfl) ?_
      refine lv_bipush (v := 20) hx hb dX6_quenches_188 (by decide) ?_
      refine z_iast Z Mz9 9 (h0 := ad 10) (n := 12) (f := σ 10) rfl (j := i) (x := 20) (by omega) (by decide) (ws' := mW o ad T (upS (upS (upS (upS (upS (upS σ 8 (qQ (σ 7) (σ 8) (8 * i) (σ 1 st9) (σ 2 st9) md (8))) 9 (upd (σ 9) i 20)) 10 (upd (σ 10) i 20)) 14 (upd (σ 14) i (qC (σ 7) (8 * i) md (σ 14 i) (8)))) 16 (upd (σ 16) i (σ 24 0))) 17 (upd (σ 17) i 0))) rfl dX6_quenches_190 (fun Hp9 lc9 Mz9 => ?_)
      exact hret _ _ _ _ _ sl9 _ Mz9 (rfl) (Nat.le_refl _) (Nat.le_refl _) dX6_quenches_191
    | succ n9 ih9 =>
      intro k hk9 Hp9 lc9 sl9 Mz9 hl9
      refine lv_iload hx hb dX6_quenches_9 (lv_at hl9 4 rfl) ?_
      refine lv_bipush (v := 8) hx hb dX6_quenches_11 (by decide) ?_
      refine zn_icmp_ge (a := k) (b := 8) (tgt := 158) (by omega) (by decide) hx hb dX6_quenches_13 (by decide) (fun h => absurd h (by omega)) (fun _ => ?_)
      refine lv_aload_n hx hb dX6_quenches_16 rfl (lv_at hl9 0 rfl) ?_
      refine z_getf Z Mz9 hin6 0 rfl rfl 7 (by decide) L25 rfl (v := .ref (ad 7)) rfl dX6_quenches_17 ?_
      refine lv_bipush (v := 8) hx hb dX6_quenches_20 (by decide) ?_
      refine lv_iload_n hx hb dX6_quenches_22 rfl (lv_at hl9 1 rfl) ?_
      refine zn_imul (a := 8) (b := i) hx hb dX6_quenches_23 ?_
      refine lv_iload hx hb dX6_quenches_24 (lv_at hl9 4 rfl) ?_
      refine zn_iadd (a := 8 * i) (b := k) hx hb dX6_quenches_26 ?_
      refine z_iald Z Mz9 6 (h0 := ad 7) (n := 96) (f := σ 7) rfl (j := (8 * i) + k) (by omega) (by decide) dX6_quenches_27 ?_
      refine lv_istore (lv' := [(5, .int ((σ 7) ((8 * i) + k))), (0, .ref o), (1, .int (nI (i))), (2, .int (md)), (3, .int (nI (st9))), (4, .int (nI (k)))]) hx hb dX6_quenches_28 hl9 (by decide) rfl (fun sl9 hl9 => ?_)
      refine lv_aload_n hx hb dX6_quenches_30 rfl (lv_at hl9 1 rfl) ?_
      refine z_getf Z Mz9 hin6 0 rfl rfl 7 (by decide) L25 rfl (v := .ref (ad 7)) rfl dX6_quenches_31 ?_
      refine lv_bipush (v := 8) hx hb dX6_quenches_34 (by decide) ?_
      refine lv_iload_n hx hb dX6_quenches_36 rfl (lv_at hl9 2 rfl) ?_
      refine zn_imul (a := 8) (b := i) hx hb dX6_quenches_37 ?_
      refine lv_iload hx hb dX6_quenches_38 (lv_at hl9 5 rfl) ?_
      refine z_callSi (As := [.int (nI (k))]) (rest := [.int (nI (8 * i)), .ref (ad 7)]) Z.1 (cm_neighbour l (k) (by omega)) (va_cwS 1 hts gX6_quenches_X6_neighbour rfl rfl rfl (by decide +kernel) ⟨by decide, by decide⟩) rfl hl9.1 (Nat.le_of_ble_eq_true rfl) dX6_quenches_40 ⟨by decide, by decide⟩ rfl ?_
      refine zn_iadd (a := 8 * i) (b := nbr (k)) hx hb dX6_quenches_43 ?_
      refine z_iald Z Mz9 6 (h0 := ad 7) (n := 96) (f := σ 7) rfl (j := (8 * i) + (nbr (k))) (by have := nbr_lt (k := k) (by omega); omega) (by decide) dX6_quenches_44 ?_
      refine lv_istore (lv' := [(6, .int ((σ 7) ((8 * i) + (nbr (k))))), (5, .int ((σ 7) ((8 * i) + k))), (0, .ref o), (1, .int (nI (i))), (2, .int (md)), (3, .int (nI (st9))), (4, .int (nI (k)))]) hx hb dX6_quenches_45 hl9 (by decide) rfl (fun sl9 hl9 => ?_)
      refine lv_iload hx hb dX6_quenches_47 (lv_at hl9 1 rfl) ?_
      refine lv_iload_n hx hb dX6_quenches_49 rfl (lv_at hl9 4 rfl) ?_
      refine lv_if_ne (tgt := 58) hx hb dX6_quenches_50 (by decide) (fun c_1 => ?_) (fun c_1 => ?_)
      ·
        refine lv_bipush (v := 20) hx hb dX6_quenches_58 (by decide) ?_
        refine lv_idiv hx hb dX6_quenches_60 (by decide) ?_
        refine lv_bipush (v := 9) hx hb dX6_quenches_61 (by decide) ?_
        refine z_callSi (As := [.int (((σ 7) ((8 * i) + k)) / 20), .int 9]) (rest := []) Z.1 (cm_least l (((σ 7) ((8 * i) + k)) / 20) (9)) (va_cwS 2 hts gX6_quenches_X6_least rfl rfl rfl (by decide +kernel) ⟨by decide, by decide⟩) rfl hl9.1 (Nat.le_of_ble_eq_true rfl) dX6_quenches_63 ⟨by decide, by decide⟩ rfl ?_
        refine lv_istore (lv' := [(7, .int (imin (((σ 7) ((8 * i) + k)) / 20) (9))), (6, .int ((σ 7) ((8 * i) + (nbr (k))))), (5, .int ((σ 7) ((8 * i) + k))), (0, .ref o), (1, .int (nI (i))), (2, .int (md)), (3, .int (nI (st9))), (4, .int (nI (k)))]) hx hb dX6_quenches_66 hl9 (by decide) rfl (fun sl9 hl9 => ?_)
        refine lv_aload_n hx hb dX6_quenches_68 rfl (lv_at hl9 3 rfl) ?_
        refine z_getf Z Mz9 hin6 0 rfl rfl 1 (by decide) L13 rfl (v := .ref (ad 1)) rfl dX6_quenches_69 ?_
        refine lv_iload_n hx hb dX6_quenches_72 rfl (lv_at hl9 6 rfl) ?_
        refine z_iald Z Mz9 2 (h0 := ad 1) (n := 4) (f := σ 1) rfl (j := st9) (by omega) (by decide) dX6_quenches_73 ?_
        refine lv_aload_n hx hb dX6_quenches_74 rfl (lv_at hl9 3 rfl) ?_
        refine z_getf Z Mz9 hin6 0 rfl rfl 2 (by decide) L16 rfl (v := .ref (ad 2)) rfl dX6_quenches_75 ?_
        refine lv_iload_n hx hb dX6_quenches_78 rfl (lv_at hl9 6 rfl) ?_
        refine z_iald Z Mz9 3 (h0 := ad 2) (n := 4) (f := σ 2) rfl (j := st9) (by omega) (by decide) dX6_quenches_79 ?_
        refine lv_iload hx hb dX6_quenches_80 (lv_at hl9 0 rfl) ?_
        refine lv_imul hx hb dX6_quenches_82 ?_
        refine lv_isub hx hb dX6_quenches_83 ?_
        refine lv_istore (lv' := [(8, .int (((σ 1) st9) - (((σ 2) st9) * (imin (((σ 7) ((8 * i) + k)) / 20) (9))))), (7, .int (imin (((σ 7) ((8 * i) + k)) / 20) (9))), (6, .int ((σ 7) ((8 * i) + (nbr (k))))), (5, .int ((σ 7) ((8 * i) + k))), (0, .ref o), (1, .int (nI (i))), (2, .int (md)), (3, .int (nI (st9))), (4, .int (nI (k)))]) hx hb dX6_quenches_84 hl9 (by decide) rfl (fun sl9 hl9 => ?_)
        refine lv_aload_n hx hb dX6_quenches_86 rfl (lv_at hl9 4 rfl) ?_
        refine z_getf Z Mz9 hin6 0 rfl rfl 8 (by decide) L28 rfl (v := .ref (ad 8)) rfl dX6_quenches_87 ?_
        refine lv_bipush (v := 8) hx hb dX6_quenches_90 (by decide) ?_
        refine lv_iload_n hx hb dX6_quenches_92 rfl (lv_at hl9 5 rfl) ?_
        refine zn_imul (a := 8) (b := i) hx hb dX6_quenches_93 ?_
        refine lv_iload hx hb dX6_quenches_94 (lv_at hl9 8 rfl) ?_
        refine zn_iadd (a := 8 * i) (b := k) hx hb dX6_quenches_96 ?_
        refine lv_iload hx hb dX6_quenches_97 (lv_at hl9 0 rfl) ?_
        refine lv_if_ge (tgt := 106) hx hb dX6_quenches_99 (by decide) (fun c_2 => ?_) (fun c_2 => ?_)
        ·
          refine lv_iload hx hb dX6_quenches_106 (lv_at hl9 0 rfl) ?_
          refine z_iast Z Mz9 7 (h0 := ad 8) (n := 96) (f := qQ (σ 7) (σ 8) (8 * i) (σ 1 st9) (σ 2 st9) md (k)) rfl (j := (8 * i) + k) (x := ((σ 1) st9) - (((σ 2) st9) * (imin (((σ 7) ((8 * i) + k)) / 20) (9)))) (by omega) (by decide) (ws' := mW o ad T (upS (upS σ 8 (upd (qQ (σ 7) (σ 8) (8 * i) (σ 1 st9) (σ 2 st9) md (k)) ((8 * i) + k) (((σ 1) st9) - (((σ 2) st9) * (imin (((σ 7) ((8 * i) + k)) / 20) (9)))))) 14 (upd (σ 14) i (qC (σ 7) (8 * i) md (σ 14 i) (k))))) rfl dX6_quenches_108 (fun Hp9 lc9 Mz9 => ?_)
          refine lv_aload_n hx hb dX6_quenches_109 rfl (lv_at hl9 4 rfl) ?_
          refine z_getf Z Mz9 hin6 0 rfl rfl 14 (by decide) L46 rfl (v := .ref (ad 14)) rfl dX6_quenches_110 ?_
          refine lv_iload_n hx hb dX6_quenches_113 rfl (lv_at hl9 5 rfl) ?_
          refine lv_aload_n hx hb dX6_quenches_114 rfl (lv_at hl9 4 rfl) ?_
          refine z_getf Z Mz9 hin6 0 rfl rfl 14 (by decide) L46 rfl (v := .ref (ad 14)) rfl dX6_quenches_115 ?_
          refine lv_iload_n hx hb dX6_quenches_118 rfl (lv_at hl9 5 rfl) ?_
          refine z_zald Z Mz9 13 (h0 := ad 14) (n := 12) (f := upd (σ 14) i (qC (σ 7) (8 * i) md (σ 14 i) (k))) rfl (j := i) (by omega) (by decide) dX6_quenches_119 ?_
          refine zn_top (y := qC (σ 7) (8 * i) md (σ 14 i) (k)) (upd_same _ _ _) ?_
          refine lv_if_ne (tgt := 146) hx hb dX6_quenches_120 (by decide) (fun c_3 => ?_) (fun c_3 => ?_)
          ·
            refine lv_iconst (v := 1) hx hb dX6_quenches_146 (by decide) ?_
            refine lv_goto (tgt := 151) hx hb dX6_quenches_147 (by decide) ?_
            refine z_zast Z Mz9 13 (h0 := ad 14) (n := 12) (f := upd (σ 14) i (qC (σ 7) (8 * i) md (σ 14 i) (k))) rfl (j := i) (x := 1) (by omega) (by decide) (hx1 := by decide) (ws' := mW o ad T (upS (upS σ 8 (upd (qQ (σ 7) (σ 8) (8 * i) (σ 1 st9) (σ 2 st9) md (k)) ((8 * i) + k) (((σ 1) st9) - (((σ 2) st9) * (imin (((σ 7) ((8 * i) + k)) / 20) (9)))))) 14 (upd (upd (σ 14) i (qC (σ 7) (8 * i) md (σ 14 i) (k))) i 1))) rfl dX6_quenches_151 (fun Hp9 lc9 Mz9 => ?_)
            refine lv_iinc (v := nI (k + 1)) (lv' := [(4, .int (nI (k + 1))), (8, .int (((σ 1) st9) - (((σ 2) st9) * (imin (((σ 7) ((8 * i) + k)) / 20) (9))))), (7, .int (imin (((σ 7) ((8 * i) + k)) / 20) (9))), (6, .int ((σ 7) ((8 * i) + (nbr (k))))), (5, .int ((σ 7) ((8 * i) + k))), (0, .ref o), (1, .int (nI (i))), (2, .int (md)), (3, .int (nI (st9)))]) hx hb dX6_quenches_152 hl9 (k := 8) rfl (nI_add (k) 1) (by decide) rfl (fun sl9 hl9 => ?_)
            refine lv_goto (tgt := 9) hx hb dX6_quenches_155 (by decide) ?_
            exact ih9 (k + 1) (by omega)  _ _ _ (zM_w (by simp only [qQ, qC, qnum, qval, upd_same, upd_upd, if_neg c_1, if_neg (Int32.not_lt.mpr c_2), if_neg c_3]) Mz9) (lv_sub hl9 [5, 6, 7, 8, 0] rfl)
          ·
            refine lv_iload_n hx hb dX6_quenches_123 rfl (lv_at hl9 6 rfl) ?_
            refine lv_iconst (v := 1) hx hb dX6_quenches_124 (by decide) ?_
            refine lv_icmp_ne (tgt := 150) hx hb dX6_quenches_125 (by decide) (fun c_4 => ?_) (fun c_4 => ?_)
            ·
              refine lv_iconst (v := 0) hx hb dX6_quenches_150 (by decide) ?_
              refine z_zast Z Mz9 13 (h0 := ad 14) (n := 12) (f := upd (σ 14) i (qC (σ 7) (8 * i) md (σ 14 i) (k))) rfl (j := i) (x := 0) (by omega) (by decide) (hx1 := by decide) (ws' := mW o ad T (upS (upS σ 8 (upd (qQ (σ 7) (σ 8) (8 * i) (σ 1 st9) (σ 2 st9) md (k)) ((8 * i) + k) (((σ 1) st9) - (((σ 2) st9) * (imin (((σ 7) ((8 * i) + k)) / 20) (9)))))) 14 (upd (upd (σ 14) i (qC (σ 7) (8 * i) md (σ 14 i) (k))) i 0))) rfl dX6_quenches_151 (fun Hp9 lc9 Mz9 => ?_)
              refine lv_iinc (v := nI (k + 1)) (lv' := [(4, .int (nI (k + 1))), (8, .int (((σ 1) st9) - (((σ 2) st9) * (imin (((σ 7) ((8 * i) + k)) / 20) (9))))), (7, .int (imin (((σ 7) ((8 * i) + k)) / 20) (9))), (6, .int ((σ 7) ((8 * i) + (nbr (k))))), (5, .int ((σ 7) ((8 * i) + k))), (0, .ref o), (1, .int (nI (i))), (2, .int (md)), (3, .int (nI (st9)))]) hx hb dX6_quenches_152 hl9 (k := 8) rfl (nI_add (k) 1) (by decide) rfl (fun sl9 hl9 => ?_)
              refine lv_goto (tgt := 9) hx hb dX6_quenches_155 (by decide) ?_
              exact ih9 (k + 1) (by omega)  _ _ _ (zM_w (by simp only [qQ, qC, qnum, qval, upd_same, upd_upd, if_neg c_1, if_neg (Int32.not_lt.mpr c_2), if_pos c_3, if_neg c_4]) Mz9) (lv_sub hl9 [5, 6, 7, 8, 0] rfl)
            ·
              refine lv_iload hx hb dX6_quenches_128 (lv_at hl9 3 rfl) ?_
              refine lv_iconst (v := 3) hx hb dX6_quenches_130 (by decide) ?_
              refine lv_iload hx hb dX6_quenches_131 (lv_at hl9 2 rfl) ?_
              refine lv_imul hx hb dX6_quenches_133 ?_
              refine lv_icmp_gt (tgt := 146) hx hb dX6_quenches_134 (by decide) (fun c_5 => ?_) (fun c_5 => ?_)
              ·
                refine lv_iconst (v := 1) hx hb dX6_quenches_146 (by decide) ?_
                refine lv_goto (tgt := 151) hx hb dX6_quenches_147 (by decide) ?_
                refine z_zast Z Mz9 13 (h0 := ad 14) (n := 12) (f := upd (σ 14) i (qC (σ 7) (8 * i) md (σ 14 i) (k))) rfl (j := i) (x := 1) (by omega) (by decide) (hx1 := by decide) (ws' := mW o ad T (upS (upS σ 8 (upd (qQ (σ 7) (σ 8) (8 * i) (σ 1 st9) (σ 2 st9) md (k)) ((8 * i) + k) (((σ 1) st9) - (((σ 2) st9) * (imin (((σ 7) ((8 * i) + k)) / 20) (9)))))) 14 (upd (upd (σ 14) i (qC (σ 7) (8 * i) md (σ 14 i) (k))) i 1))) rfl dX6_quenches_151 (fun Hp9 lc9 Mz9 => ?_)
                refine lv_iinc (v := nI (k + 1)) (lv' := [(4, .int (nI (k + 1))), (8, .int (((σ 1) st9) - (((σ 2) st9) * (imin (((σ 7) ((8 * i) + k)) / 20) (9))))), (7, .int (imin (((σ 7) ((8 * i) + k)) / 20) (9))), (6, .int ((σ 7) ((8 * i) + (nbr (k))))), (5, .int ((σ 7) ((8 * i) + k))), (0, .ref o), (1, .int (nI (i))), (2, .int (md)), (3, .int (nI (st9)))]) hx hb dX6_quenches_152 hl9 (k := 8) rfl (nI_add (k) 1) (by decide) rfl (fun sl9 hl9 => ?_)
                refine lv_goto (tgt := 9) hx hb dX6_quenches_155 (by decide) ?_
                exact ih9 (k + 1) (by omega)  _ _ _ (zM_w (by simp only [qQ, qC, qnum, qval, upd_same, upd_upd, if_neg c_1, if_neg (Int32.not_lt.mpr c_2), if_pos c_3, if_pos c_4, if_pos c_5]) Mz9) (lv_sub hl9 [5, 6, 7, 8, 0] rfl)
              ·
                refine lv_iconst (v := 3) hx hb dX6_quenches_137 (by decide) ?_
                refine lv_iload hx hb dX6_quenches_138 (lv_at hl9 3 rfl) ?_
                refine lv_imul hx hb dX6_quenches_140 ?_
                refine lv_iload hx hb dX6_quenches_141 (lv_at hl9 2 rfl) ?_
                refine lv_icmp_ge (tgt := 150) hx hb dX6_quenches_143 (by decide) (fun c_6 => ?_) (fun c_6 => ?_)
                ·
                  refine lv_iconst (v := 0) hx hb dX6_quenches_150 (by decide) ?_
                  refine z_zast Z Mz9 13 (h0 := ad 14) (n := 12) (f := upd (σ 14) i (qC (σ 7) (8 * i) md (σ 14 i) (k))) rfl (j := i) (x := 0) (by omega) (by decide) (hx1 := by decide) (ws' := mW o ad T (upS (upS σ 8 (upd (qQ (σ 7) (σ 8) (8 * i) (σ 1 st9) (σ 2 st9) md (k)) ((8 * i) + k) (((σ 1) st9) - (((σ 2) st9) * (imin (((σ 7) ((8 * i) + k)) / 20) (9)))))) 14 (upd (upd (σ 14) i (qC (σ 7) (8 * i) md (σ 14 i) (k))) i 0))) rfl dX6_quenches_151 (fun Hp9 lc9 Mz9 => ?_)
                  refine lv_iinc (v := nI (k + 1)) (lv' := [(4, .int (nI (k + 1))), (8, .int (((σ 1) st9) - (((σ 2) st9) * (imin (((σ 7) ((8 * i) + k)) / 20) (9))))), (7, .int (imin (((σ 7) ((8 * i) + k)) / 20) (9))), (6, .int ((σ 7) ((8 * i) + (nbr (k))))), (5, .int ((σ 7) ((8 * i) + k))), (0, .ref o), (1, .int (nI (i))), (2, .int (md)), (3, .int (nI (st9)))]) hx hb dX6_quenches_152 hl9 (k := 8) rfl (nI_add (k) 1) (by decide) rfl (fun sl9 hl9 => ?_)
                  refine lv_goto (tgt := 9) hx hb dX6_quenches_155 (by decide) ?_
                  exact ih9 (k + 1) (by omega)  _ _ _ (zM_w (by simp only [qQ, qC, qnum, qval, upd_same, upd_upd, if_neg c_1, if_neg (Int32.not_lt.mpr c_2), if_pos c_3, if_pos c_4, if_neg c_5, if_neg (Int32.not_lt.mpr c_6)]) Mz9) (lv_sub hl9 [5, 6, 7, 8, 0] rfl)
                ·
                  refine lv_iconst (v := 1) hx hb dX6_quenches_146 (by decide) ?_
                  refine lv_goto (tgt := 151) hx hb dX6_quenches_147 (by decide) ?_
                  refine z_zast Z Mz9 13 (h0 := ad 14) (n := 12) (f := upd (σ 14) i (qC (σ 7) (8 * i) md (σ 14 i) (k))) rfl (j := i) (x := 1) (by omega) (by decide) (hx1 := by decide) (ws' := mW o ad T (upS (upS σ 8 (upd (qQ (σ 7) (σ 8) (8 * i) (σ 1 st9) (σ 2 st9) md (k)) ((8 * i) + k) (((σ 1) st9) - (((σ 2) st9) * (imin (((σ 7) ((8 * i) + k)) / 20) (9)))))) 14 (upd (upd (σ 14) i (qC (σ 7) (8 * i) md (σ 14 i) (k))) i 1))) rfl dX6_quenches_151 (fun Hp9 lc9 Mz9 => ?_)
                  refine lv_iinc (v := nI (k + 1)) (lv' := [(4, .int (nI (k + 1))), (8, .int (((σ 1) st9) - (((σ 2) st9) * (imin (((σ 7) ((8 * i) + k)) / 20) (9))))), (7, .int (imin (((σ 7) ((8 * i) + k)) / 20) (9))), (6, .int ((σ 7) ((8 * i) + (nbr (k))))), (5, .int ((σ 7) ((8 * i) + k))), (0, .ref o), (1, .int (nI (i))), (2, .int (md)), (3, .int (nI (st9)))]) hx hb dX6_quenches_152 hl9 (k := 8) rfl (nI_add (k) 1) (by decide) rfl (fun sl9 hl9 => ?_)
                  refine lv_goto (tgt := 9) hx hb dX6_quenches_155 (by decide) ?_
                  exact ih9 (k + 1) (by omega)  _ _ _ (zM_w (by simp only [qQ, qC, qnum, qval, upd_same, upd_upd, if_neg c_1, if_neg (Int32.not_lt.mpr c_2), if_pos c_3, if_pos c_4, if_neg c_5, if_pos (Int32.not_le.mp c_6)]) Mz9) (lv_sub hl9 [5, 6, 7, 8, 0] rfl)
        ·
          refine lv_iconst (v := 0) hx hb dX6_quenches_102 (by decide) ?_
          refine lv_goto (tgt := 108) hx hb dX6_quenches_103 (by decide) ?_
          refine z_iast Z Mz9 7 (h0 := ad 8) (n := 96) (f := qQ (σ 7) (σ 8) (8 * i) (σ 1 st9) (σ 2 st9) md (k)) rfl (j := (8 * i) + k) (x := 0) (by omega) (by decide) (ws' := mW o ad T (upS (upS σ 8 (upd (qQ (σ 7) (σ 8) (8 * i) (σ 1 st9) (σ 2 st9) md (k)) ((8 * i) + k) 0)) 14 (upd (σ 14) i (qC (σ 7) (8 * i) md (σ 14 i) (k))))) rfl dX6_quenches_108 (fun Hp9 lc9 Mz9 => ?_)
          refine lv_aload_n hx hb dX6_quenches_109 rfl (lv_at hl9 4 rfl) ?_
          refine z_getf Z Mz9 hin6 0 rfl rfl 14 (by decide) L46 rfl (v := .ref (ad 14)) rfl dX6_quenches_110 ?_
          refine lv_iload_n hx hb dX6_quenches_113 rfl (lv_at hl9 5 rfl) ?_
          refine lv_aload_n hx hb dX6_quenches_114 rfl (lv_at hl9 4 rfl) ?_
          refine z_getf Z Mz9 hin6 0 rfl rfl 14 (by decide) L46 rfl (v := .ref (ad 14)) rfl dX6_quenches_115 ?_
          refine lv_iload_n hx hb dX6_quenches_118 rfl (lv_at hl9 5 rfl) ?_
          refine z_zald Z Mz9 13 (h0 := ad 14) (n := 12) (f := upd (σ 14) i (qC (σ 7) (8 * i) md (σ 14 i) (k))) rfl (j := i) (by omega) (by decide) dX6_quenches_119 ?_
          refine zn_top (y := qC (σ 7) (8 * i) md (σ 14 i) (k)) (upd_same _ _ _) ?_
          refine lv_if_ne (tgt := 146) hx hb dX6_quenches_120 (by decide) (fun c_7 => ?_) (fun c_7 => ?_)
          ·
            refine lv_iconst (v := 1) hx hb dX6_quenches_146 (by decide) ?_
            refine lv_goto (tgt := 151) hx hb dX6_quenches_147 (by decide) ?_
            refine z_zast Z Mz9 13 (h0 := ad 14) (n := 12) (f := upd (σ 14) i (qC (σ 7) (8 * i) md (σ 14 i) (k))) rfl (j := i) (x := 1) (by omega) (by decide) (hx1 := by decide) (ws' := mW o ad T (upS (upS σ 8 (upd (qQ (σ 7) (σ 8) (8 * i) (σ 1 st9) (σ 2 st9) md (k)) ((8 * i) + k) 0)) 14 (upd (upd (σ 14) i (qC (σ 7) (8 * i) md (σ 14 i) (k))) i 1))) rfl dX6_quenches_151 (fun Hp9 lc9 Mz9 => ?_)
            refine lv_iinc (v := nI (k + 1)) (lv' := [(4, .int (nI (k + 1))), (8, .int (((σ 1) st9) - (((σ 2) st9) * (imin (((σ 7) ((8 * i) + k)) / 20) (9))))), (7, .int (imin (((σ 7) ((8 * i) + k)) / 20) (9))), (6, .int ((σ 7) ((8 * i) + (nbr (k))))), (5, .int ((σ 7) ((8 * i) + k))), (0, .ref o), (1, .int (nI (i))), (2, .int (md)), (3, .int (nI (st9)))]) hx hb dX6_quenches_152 hl9 (k := 8) rfl (nI_add (k) 1) (by decide) rfl (fun sl9 hl9 => ?_)
            refine lv_goto (tgt := 9) hx hb dX6_quenches_155 (by decide) ?_
            exact ih9 (k + 1) (by omega)  _ _ _ (zM_w (by simp only [qQ, qC, qnum, qval, upd_same, upd_upd, if_neg c_1, if_pos (Int32.not_le.mp c_2), if_neg c_7]) Mz9) (lv_sub hl9 [5, 6, 7, 8, 0] rfl)
          ·
            refine lv_iload_n hx hb dX6_quenches_123 rfl (lv_at hl9 6 rfl) ?_
            refine lv_iconst (v := 1) hx hb dX6_quenches_124 (by decide) ?_
            refine lv_icmp_ne (tgt := 150) hx hb dX6_quenches_125 (by decide) (fun c_8 => ?_) (fun c_8 => ?_)
            ·
              refine lv_iconst (v := 0) hx hb dX6_quenches_150 (by decide) ?_
              refine z_zast Z Mz9 13 (h0 := ad 14) (n := 12) (f := upd (σ 14) i (qC (σ 7) (8 * i) md (σ 14 i) (k))) rfl (j := i) (x := 0) (by omega) (by decide) (hx1 := by decide) (ws' := mW o ad T (upS (upS σ 8 (upd (qQ (σ 7) (σ 8) (8 * i) (σ 1 st9) (σ 2 st9) md (k)) ((8 * i) + k) 0)) 14 (upd (upd (σ 14) i (qC (σ 7) (8 * i) md (σ 14 i) (k))) i 0))) rfl dX6_quenches_151 (fun Hp9 lc9 Mz9 => ?_)
              refine lv_iinc (v := nI (k + 1)) (lv' := [(4, .int (nI (k + 1))), (8, .int (((σ 1) st9) - (((σ 2) st9) * (imin (((σ 7) ((8 * i) + k)) / 20) (9))))), (7, .int (imin (((σ 7) ((8 * i) + k)) / 20) (9))), (6, .int ((σ 7) ((8 * i) + (nbr (k))))), (5, .int ((σ 7) ((8 * i) + k))), (0, .ref o), (1, .int (nI (i))), (2, .int (md)), (3, .int (nI (st9)))]) hx hb dX6_quenches_152 hl9 (k := 8) rfl (nI_add (k) 1) (by decide) rfl (fun sl9 hl9 => ?_)
              refine lv_goto (tgt := 9) hx hb dX6_quenches_155 (by decide) ?_
              exact ih9 (k + 1) (by omega)  _ _ _ (zM_w (by simp only [qQ, qC, qnum, qval, upd_same, upd_upd, if_neg c_1, if_pos (Int32.not_le.mp c_2), if_pos c_7, if_neg c_8]) Mz9) (lv_sub hl9 [5, 6, 7, 8, 0] rfl)
            ·
              refine lv_iload hx hb dX6_quenches_128 (lv_at hl9 3 rfl) ?_
              refine lv_iconst (v := 3) hx hb dX6_quenches_130 (by decide) ?_
              refine lv_iload hx hb dX6_quenches_131 (lv_at hl9 2 rfl) ?_
              refine lv_imul hx hb dX6_quenches_133 ?_
              refine lv_icmp_gt (tgt := 146) hx hb dX6_quenches_134 (by decide) (fun c_9 => ?_) (fun c_9 => ?_)
              ·
                refine lv_iconst (v := 1) hx hb dX6_quenches_146 (by decide) ?_
                refine lv_goto (tgt := 151) hx hb dX6_quenches_147 (by decide) ?_
                refine z_zast Z Mz9 13 (h0 := ad 14) (n := 12) (f := upd (σ 14) i (qC (σ 7) (8 * i) md (σ 14 i) (k))) rfl (j := i) (x := 1) (by omega) (by decide) (hx1 := by decide) (ws' := mW o ad T (upS (upS σ 8 (upd (qQ (σ 7) (σ 8) (8 * i) (σ 1 st9) (σ 2 st9) md (k)) ((8 * i) + k) 0)) 14 (upd (upd (σ 14) i (qC (σ 7) (8 * i) md (σ 14 i) (k))) i 1))) rfl dX6_quenches_151 (fun Hp9 lc9 Mz9 => ?_)
                refine lv_iinc (v := nI (k + 1)) (lv' := [(4, .int (nI (k + 1))), (8, .int (((σ 1) st9) - (((σ 2) st9) * (imin (((σ 7) ((8 * i) + k)) / 20) (9))))), (7, .int (imin (((σ 7) ((8 * i) + k)) / 20) (9))), (6, .int ((σ 7) ((8 * i) + (nbr (k))))), (5, .int ((σ 7) ((8 * i) + k))), (0, .ref o), (1, .int (nI (i))), (2, .int (md)), (3, .int (nI (st9)))]) hx hb dX6_quenches_152 hl9 (k := 8) rfl (nI_add (k) 1) (by decide) rfl (fun sl9 hl9 => ?_)
                refine lv_goto (tgt := 9) hx hb dX6_quenches_155 (by decide) ?_
                exact ih9 (k + 1) (by omega)  _ _ _ (zM_w (by simp only [qQ, qC, qnum, qval, upd_same, upd_upd, if_neg c_1, if_pos (Int32.not_le.mp c_2), if_pos c_7, if_pos c_8, if_pos c_9]) Mz9) (lv_sub hl9 [5, 6, 7, 8, 0] rfl)
              ·
                refine lv_iconst (v := 3) hx hb dX6_quenches_137 (by decide) ?_
                refine lv_iload hx hb dX6_quenches_138 (lv_at hl9 3 rfl) ?_
                refine lv_imul hx hb dX6_quenches_140 ?_
                refine lv_iload hx hb dX6_quenches_141 (lv_at hl9 2 rfl) ?_
                refine lv_icmp_ge (tgt := 150) hx hb dX6_quenches_143 (by decide) (fun c_10 => ?_) (fun c_10 => ?_)
                ·
                  refine lv_iconst (v := 0) hx hb dX6_quenches_150 (by decide) ?_
                  refine z_zast Z Mz9 13 (h0 := ad 14) (n := 12) (f := upd (σ 14) i (qC (σ 7) (8 * i) md (σ 14 i) (k))) rfl (j := i) (x := 0) (by omega) (by decide) (hx1 := by decide) (ws' := mW o ad T (upS (upS σ 8 (upd (qQ (σ 7) (σ 8) (8 * i) (σ 1 st9) (σ 2 st9) md (k)) ((8 * i) + k) 0)) 14 (upd (upd (σ 14) i (qC (σ 7) (8 * i) md (σ 14 i) (k))) i 0))) rfl dX6_quenches_151 (fun Hp9 lc9 Mz9 => ?_)
                  refine lv_iinc (v := nI (k + 1)) (lv' := [(4, .int (nI (k + 1))), (8, .int (((σ 1) st9) - (((σ 2) st9) * (imin (((σ 7) ((8 * i) + k)) / 20) (9))))), (7, .int (imin (((σ 7) ((8 * i) + k)) / 20) (9))), (6, .int ((σ 7) ((8 * i) + (nbr (k))))), (5, .int ((σ 7) ((8 * i) + k))), (0, .ref o), (1, .int (nI (i))), (2, .int (md)), (3, .int (nI (st9)))]) hx hb dX6_quenches_152 hl9 (k := 8) rfl (nI_add (k) 1) (by decide) rfl (fun sl9 hl9 => ?_)
                  refine lv_goto (tgt := 9) hx hb dX6_quenches_155 (by decide) ?_
                  exact ih9 (k + 1) (by omega)  _ _ _ (zM_w (by simp only [qQ, qC, qnum, qval, upd_same, upd_upd, if_neg c_1, if_pos (Int32.not_le.mp c_2), if_pos c_7, if_pos c_8, if_neg c_9, if_neg (Int32.not_lt.mpr c_10)]) Mz9) (lv_sub hl9 [5, 6, 7, 8, 0] rfl)
                ·
                  refine lv_iconst (v := 1) hx hb dX6_quenches_146 (by decide) ?_
                  refine lv_goto (tgt := 151) hx hb dX6_quenches_147 (by decide) ?_
                  refine z_zast Z Mz9 13 (h0 := ad 14) (n := 12) (f := upd (σ 14) i (qC (σ 7) (8 * i) md (σ 14 i) (k))) rfl (j := i) (x := 1) (by omega) (by decide) (hx1 := by decide) (ws' := mW o ad T (upS (upS σ 8 (upd (qQ (σ 7) (σ 8) (8 * i) (σ 1 st9) (σ 2 st9) md (k)) ((8 * i) + k) 0)) 14 (upd (upd (σ 14) i (qC (σ 7) (8 * i) md (σ 14 i) (k))) i 1))) rfl dX6_quenches_151 (fun Hp9 lc9 Mz9 => ?_)
                  refine lv_iinc (v := nI (k + 1)) (lv' := [(4, .int (nI (k + 1))), (8, .int (((σ 1) st9) - (((σ 2) st9) * (imin (((σ 7) ((8 * i) + k)) / 20) (9))))), (7, .int (imin (((σ 7) ((8 * i) + k)) / 20) (9))), (6, .int ((σ 7) ((8 * i) + (nbr (k))))), (5, .int ((σ 7) ((8 * i) + k))), (0, .ref o), (1, .int (nI (i))), (2, .int (md)), (3, .int (nI (st9)))]) hx hb dX6_quenches_152 hl9 (k := 8) rfl (nI_add (k) 1) (by decide) rfl (fun sl9 hl9 => ?_)
                  refine lv_goto (tgt := 9) hx hb dX6_quenches_155 (by decide) ?_
                  exact ih9 (k + 1) (by omega)  _ _ _ (zM_w (by simp only [qQ, qC, qnum, qval, upd_same, upd_upd, if_neg c_1, if_pos (Int32.not_le.mp c_2), if_pos c_7, if_pos c_8, if_neg c_9, if_pos (Int32.not_le.mp c_10)]) Mz9) (lv_sub hl9 [5, 6, 7, 8, 0] rfl)
      ·
        refine lv_bipush (v := 10) hx hb dX6_quenches_53 (by decide) ?_
        refine lv_goto (tgt := 60) hx hb dX6_quenches_55 (by decide) ?_
        refine lv_idiv hx hb dX6_quenches_60 (by decide) ?_
        refine lv_bipush (v := 9) hx hb dX6_quenches_61 (by decide) ?_
        refine z_callSi (As := [.int (((σ 7) ((8 * i) + k)) / 10), .int 9]) (rest := []) Z.1 (cm_least l (((σ 7) ((8 * i) + k)) / 10) (9)) (va_cwS 2 hts gX6_quenches_X6_least rfl rfl rfl (by decide +kernel) ⟨by decide, by decide⟩) rfl hl9.1 (Nat.le_of_ble_eq_true rfl) dX6_quenches_63 ⟨by decide, by decide⟩ rfl ?_
        refine lv_istore (lv' := [(7, .int (imin (((σ 7) ((8 * i) + k)) / 10) (9))), (6, .int ((σ 7) ((8 * i) + (nbr (k))))), (5, .int ((σ 7) ((8 * i) + k))), (0, .ref o), (1, .int (nI (i))), (2, .int (md)), (3, .int (nI (st9))), (4, .int (nI (k)))]) hx hb dX6_quenches_66 hl9 (by decide) rfl (fun sl9 hl9 => ?_)
        refine lv_aload_n hx hb dX6_quenches_68 rfl (lv_at hl9 3 rfl) ?_
        refine z_getf Z Mz9 hin6 0 rfl rfl 1 (by decide) L13 rfl (v := .ref (ad 1)) rfl dX6_quenches_69 ?_
        refine lv_iload_n hx hb dX6_quenches_72 rfl (lv_at hl9 6 rfl) ?_
        refine z_iald Z Mz9 2 (h0 := ad 1) (n := 4) (f := σ 1) rfl (j := st9) (by omega) (by decide) dX6_quenches_73 ?_
        refine lv_aload_n hx hb dX6_quenches_74 rfl (lv_at hl9 3 rfl) ?_
        refine z_getf Z Mz9 hin6 0 rfl rfl 2 (by decide) L16 rfl (v := .ref (ad 2)) rfl dX6_quenches_75 ?_
        refine lv_iload_n hx hb dX6_quenches_78 rfl (lv_at hl9 6 rfl) ?_
        refine z_iald Z Mz9 3 (h0 := ad 2) (n := 4) (f := σ 2) rfl (j := st9) (by omega) (by decide) dX6_quenches_79 ?_
        refine lv_iload hx hb dX6_quenches_80 (lv_at hl9 0 rfl) ?_
        refine lv_imul hx hb dX6_quenches_82 ?_
        refine lv_isub hx hb dX6_quenches_83 ?_
        refine lv_istore (lv' := [(8, .int (((σ 1) st9) - (((σ 2) st9) * (imin (((σ 7) ((8 * i) + k)) / 10) (9))))), (7, .int (imin (((σ 7) ((8 * i) + k)) / 10) (9))), (6, .int ((σ 7) ((8 * i) + (nbr (k))))), (5, .int ((σ 7) ((8 * i) + k))), (0, .ref o), (1, .int (nI (i))), (2, .int (md)), (3, .int (nI (st9))), (4, .int (nI (k)))]) hx hb dX6_quenches_84 hl9 (by decide) rfl (fun sl9 hl9 => ?_)
        refine lv_aload_n hx hb dX6_quenches_86 rfl (lv_at hl9 4 rfl) ?_
        refine z_getf Z Mz9 hin6 0 rfl rfl 8 (by decide) L28 rfl (v := .ref (ad 8)) rfl dX6_quenches_87 ?_
        refine lv_bipush (v := 8) hx hb dX6_quenches_90 (by decide) ?_
        refine lv_iload_n hx hb dX6_quenches_92 rfl (lv_at hl9 5 rfl) ?_
        refine zn_imul (a := 8) (b := i) hx hb dX6_quenches_93 ?_
        refine lv_iload hx hb dX6_quenches_94 (lv_at hl9 8 rfl) ?_
        refine zn_iadd (a := 8 * i) (b := k) hx hb dX6_quenches_96 ?_
        refine lv_iload hx hb dX6_quenches_97 (lv_at hl9 0 rfl) ?_
        refine lv_if_ge (tgt := 106) hx hb dX6_quenches_99 (by decide) (fun c_11 => ?_) (fun c_11 => ?_)
        ·
          refine lv_iload hx hb dX6_quenches_106 (lv_at hl9 0 rfl) ?_
          refine z_iast Z Mz9 7 (h0 := ad 8) (n := 96) (f := qQ (σ 7) (σ 8) (8 * i) (σ 1 st9) (σ 2 st9) md (k)) rfl (j := (8 * i) + k) (x := ((σ 1) st9) - (((σ 2) st9) * (imin (((σ 7) ((8 * i) + k)) / 10) (9)))) (by omega) (by decide) (ws' := mW o ad T (upS (upS σ 8 (upd (qQ (σ 7) (σ 8) (8 * i) (σ 1 st9) (σ 2 st9) md (k)) ((8 * i) + k) (((σ 1) st9) - (((σ 2) st9) * (imin (((σ 7) ((8 * i) + k)) / 10) (9)))))) 14 (upd (σ 14) i (qC (σ 7) (8 * i) md (σ 14 i) (k))))) rfl dX6_quenches_108 (fun Hp9 lc9 Mz9 => ?_)
          refine lv_aload_n hx hb dX6_quenches_109 rfl (lv_at hl9 4 rfl) ?_
          refine z_getf Z Mz9 hin6 0 rfl rfl 14 (by decide) L46 rfl (v := .ref (ad 14)) rfl dX6_quenches_110 ?_
          refine lv_iload_n hx hb dX6_quenches_113 rfl (lv_at hl9 5 rfl) ?_
          refine lv_aload_n hx hb dX6_quenches_114 rfl (lv_at hl9 4 rfl) ?_
          refine z_getf Z Mz9 hin6 0 rfl rfl 14 (by decide) L46 rfl (v := .ref (ad 14)) rfl dX6_quenches_115 ?_
          refine lv_iload_n hx hb dX6_quenches_118 rfl (lv_at hl9 5 rfl) ?_
          refine z_zald Z Mz9 13 (h0 := ad 14) (n := 12) (f := upd (σ 14) i (qC (σ 7) (8 * i) md (σ 14 i) (k))) rfl (j := i) (by omega) (by decide) dX6_quenches_119 ?_
          refine zn_top (y := qC (σ 7) (8 * i) md (σ 14 i) (k)) (upd_same _ _ _) ?_
          refine lv_if_ne (tgt := 146) hx hb dX6_quenches_120 (by decide) (fun c_12 => ?_) (fun c_12 => ?_)
          ·
            refine lv_iconst (v := 1) hx hb dX6_quenches_146 (by decide) ?_
            refine lv_goto (tgt := 151) hx hb dX6_quenches_147 (by decide) ?_
            refine z_zast Z Mz9 13 (h0 := ad 14) (n := 12) (f := upd (σ 14) i (qC (σ 7) (8 * i) md (σ 14 i) (k))) rfl (j := i) (x := 1) (by omega) (by decide) (hx1 := by decide) (ws' := mW o ad T (upS (upS σ 8 (upd (qQ (σ 7) (σ 8) (8 * i) (σ 1 st9) (σ 2 st9) md (k)) ((8 * i) + k) (((σ 1) st9) - (((σ 2) st9) * (imin (((σ 7) ((8 * i) + k)) / 10) (9)))))) 14 (upd (upd (σ 14) i (qC (σ 7) (8 * i) md (σ 14 i) (k))) i 1))) rfl dX6_quenches_151 (fun Hp9 lc9 Mz9 => ?_)
            refine lv_iinc (v := nI (k + 1)) (lv' := [(4, .int (nI (k + 1))), (8, .int (((σ 1) st9) - (((σ 2) st9) * (imin (((σ 7) ((8 * i) + k)) / 10) (9))))), (7, .int (imin (((σ 7) ((8 * i) + k)) / 10) (9))), (6, .int ((σ 7) ((8 * i) + (nbr (k))))), (5, .int ((σ 7) ((8 * i) + k))), (0, .ref o), (1, .int (nI (i))), (2, .int (md)), (3, .int (nI (st9)))]) hx hb dX6_quenches_152 hl9 (k := 8) rfl (nI_add (k) 1) (by decide) rfl (fun sl9 hl9 => ?_)
            refine lv_goto (tgt := 9) hx hb dX6_quenches_155 (by decide) ?_
            exact ih9 (k + 1) (by omega)  _ _ _ (zM_w (by simp only [qQ, qC, qnum, qval, upd_same, upd_upd, if_pos c_1, if_neg (Int32.not_lt.mpr c_11), if_neg c_12]) Mz9) (lv_sub hl9 [5, 6, 7, 8, 0] rfl)
          ·
            refine lv_iload_n hx hb dX6_quenches_123 rfl (lv_at hl9 6 rfl) ?_
            refine lv_iconst (v := 1) hx hb dX6_quenches_124 (by decide) ?_
            refine lv_icmp_ne (tgt := 150) hx hb dX6_quenches_125 (by decide) (fun c_13 => ?_) (fun c_13 => ?_)
            ·
              refine lv_iconst (v := 0) hx hb dX6_quenches_150 (by decide) ?_
              refine z_zast Z Mz9 13 (h0 := ad 14) (n := 12) (f := upd (σ 14) i (qC (σ 7) (8 * i) md (σ 14 i) (k))) rfl (j := i) (x := 0) (by omega) (by decide) (hx1 := by decide) (ws' := mW o ad T (upS (upS σ 8 (upd (qQ (σ 7) (σ 8) (8 * i) (σ 1 st9) (σ 2 st9) md (k)) ((8 * i) + k) (((σ 1) st9) - (((σ 2) st9) * (imin (((σ 7) ((8 * i) + k)) / 10) (9)))))) 14 (upd (upd (σ 14) i (qC (σ 7) (8 * i) md (σ 14 i) (k))) i 0))) rfl dX6_quenches_151 (fun Hp9 lc9 Mz9 => ?_)
              refine lv_iinc (v := nI (k + 1)) (lv' := [(4, .int (nI (k + 1))), (8, .int (((σ 1) st9) - (((σ 2) st9) * (imin (((σ 7) ((8 * i) + k)) / 10) (9))))), (7, .int (imin (((σ 7) ((8 * i) + k)) / 10) (9))), (6, .int ((σ 7) ((8 * i) + (nbr (k))))), (5, .int ((σ 7) ((8 * i) + k))), (0, .ref o), (1, .int (nI (i))), (2, .int (md)), (3, .int (nI (st9)))]) hx hb dX6_quenches_152 hl9 (k := 8) rfl (nI_add (k) 1) (by decide) rfl (fun sl9 hl9 => ?_)
              refine lv_goto (tgt := 9) hx hb dX6_quenches_155 (by decide) ?_
              exact ih9 (k + 1) (by omega)  _ _ _ (zM_w (by simp only [qQ, qC, qnum, qval, upd_same, upd_upd, if_pos c_1, if_neg (Int32.not_lt.mpr c_11), if_pos c_12, if_neg c_13]) Mz9) (lv_sub hl9 [5, 6, 7, 8, 0] rfl)
            ·
              refine lv_iload hx hb dX6_quenches_128 (lv_at hl9 3 rfl) ?_
              refine lv_iconst (v := 3) hx hb dX6_quenches_130 (by decide) ?_
              refine lv_iload hx hb dX6_quenches_131 (lv_at hl9 2 rfl) ?_
              refine lv_imul hx hb dX6_quenches_133 ?_
              refine lv_icmp_gt (tgt := 146) hx hb dX6_quenches_134 (by decide) (fun c_14 => ?_) (fun c_14 => ?_)
              ·
                refine lv_iconst (v := 1) hx hb dX6_quenches_146 (by decide) ?_
                refine lv_goto (tgt := 151) hx hb dX6_quenches_147 (by decide) ?_
                refine z_zast Z Mz9 13 (h0 := ad 14) (n := 12) (f := upd (σ 14) i (qC (σ 7) (8 * i) md (σ 14 i) (k))) rfl (j := i) (x := 1) (by omega) (by decide) (hx1 := by decide) (ws' := mW o ad T (upS (upS σ 8 (upd (qQ (σ 7) (σ 8) (8 * i) (σ 1 st9) (σ 2 st9) md (k)) ((8 * i) + k) (((σ 1) st9) - (((σ 2) st9) * (imin (((σ 7) ((8 * i) + k)) / 10) (9)))))) 14 (upd (upd (σ 14) i (qC (σ 7) (8 * i) md (σ 14 i) (k))) i 1))) rfl dX6_quenches_151 (fun Hp9 lc9 Mz9 => ?_)
                refine lv_iinc (v := nI (k + 1)) (lv' := [(4, .int (nI (k + 1))), (8, .int (((σ 1) st9) - (((σ 2) st9) * (imin (((σ 7) ((8 * i) + k)) / 10) (9))))), (7, .int (imin (((σ 7) ((8 * i) + k)) / 10) (9))), (6, .int ((σ 7) ((8 * i) + (nbr (k))))), (5, .int ((σ 7) ((8 * i) + k))), (0, .ref o), (1, .int (nI (i))), (2, .int (md)), (3, .int (nI (st9)))]) hx hb dX6_quenches_152 hl9 (k := 8) rfl (nI_add (k) 1) (by decide) rfl (fun sl9 hl9 => ?_)
                refine lv_goto (tgt := 9) hx hb dX6_quenches_155 (by decide) ?_
                exact ih9 (k + 1) (by omega)  _ _ _ (zM_w (by simp only [qQ, qC, qnum, qval, upd_same, upd_upd, if_pos c_1, if_neg (Int32.not_lt.mpr c_11), if_pos c_12, if_pos c_13, if_pos c_14]) Mz9) (lv_sub hl9 [5, 6, 7, 8, 0] rfl)
              ·
                refine lv_iconst (v := 3) hx hb dX6_quenches_137 (by decide) ?_
                refine lv_iload hx hb dX6_quenches_138 (lv_at hl9 3 rfl) ?_
                refine lv_imul hx hb dX6_quenches_140 ?_
                refine lv_iload hx hb dX6_quenches_141 (lv_at hl9 2 rfl) ?_
                refine lv_icmp_ge (tgt := 150) hx hb dX6_quenches_143 (by decide) (fun c_15 => ?_) (fun c_15 => ?_)
                ·
                  refine lv_iconst (v := 0) hx hb dX6_quenches_150 (by decide) ?_
                  refine z_zast Z Mz9 13 (h0 := ad 14) (n := 12) (f := upd (σ 14) i (qC (σ 7) (8 * i) md (σ 14 i) (k))) rfl (j := i) (x := 0) (by omega) (by decide) (hx1 := by decide) (ws' := mW o ad T (upS (upS σ 8 (upd (qQ (σ 7) (σ 8) (8 * i) (σ 1 st9) (σ 2 st9) md (k)) ((8 * i) + k) (((σ 1) st9) - (((σ 2) st9) * (imin (((σ 7) ((8 * i) + k)) / 10) (9)))))) 14 (upd (upd (σ 14) i (qC (σ 7) (8 * i) md (σ 14 i) (k))) i 0))) rfl dX6_quenches_151 (fun Hp9 lc9 Mz9 => ?_)
                  refine lv_iinc (v := nI (k + 1)) (lv' := [(4, .int (nI (k + 1))), (8, .int (((σ 1) st9) - (((σ 2) st9) * (imin (((σ 7) ((8 * i) + k)) / 10) (9))))), (7, .int (imin (((σ 7) ((8 * i) + k)) / 10) (9))), (6, .int ((σ 7) ((8 * i) + (nbr (k))))), (5, .int ((σ 7) ((8 * i) + k))), (0, .ref o), (1, .int (nI (i))), (2, .int (md)), (3, .int (nI (st9)))]) hx hb dX6_quenches_152 hl9 (k := 8) rfl (nI_add (k) 1) (by decide) rfl (fun sl9 hl9 => ?_)
                  refine lv_goto (tgt := 9) hx hb dX6_quenches_155 (by decide) ?_
                  exact ih9 (k + 1) (by omega)  _ _ _ (zM_w (by simp only [qQ, qC, qnum, qval, upd_same, upd_upd, if_pos c_1, if_neg (Int32.not_lt.mpr c_11), if_pos c_12, if_pos c_13, if_neg c_14, if_neg (Int32.not_lt.mpr c_15)]) Mz9) (lv_sub hl9 [5, 6, 7, 8, 0] rfl)
                ·
                  refine lv_iconst (v := 1) hx hb dX6_quenches_146 (by decide) ?_
                  refine lv_goto (tgt := 151) hx hb dX6_quenches_147 (by decide) ?_
                  refine z_zast Z Mz9 13 (h0 := ad 14) (n := 12) (f := upd (σ 14) i (qC (σ 7) (8 * i) md (σ 14 i) (k))) rfl (j := i) (x := 1) (by omega) (by decide) (hx1 := by decide) (ws' := mW o ad T (upS (upS σ 8 (upd (qQ (σ 7) (σ 8) (8 * i) (σ 1 st9) (σ 2 st9) md (k)) ((8 * i) + k) (((σ 1) st9) - (((σ 2) st9) * (imin (((σ 7) ((8 * i) + k)) / 10) (9)))))) 14 (upd (upd (σ 14) i (qC (σ 7) (8 * i) md (σ 14 i) (k))) i 1))) rfl dX6_quenches_151 (fun Hp9 lc9 Mz9 => ?_)
                  refine lv_iinc (v := nI (k + 1)) (lv' := [(4, .int (nI (k + 1))), (8, .int (((σ 1) st9) - (((σ 2) st9) * (imin (((σ 7) ((8 * i) + k)) / 10) (9))))), (7, .int (imin (((σ 7) ((8 * i) + k)) / 10) (9))), (6, .int ((σ 7) ((8 * i) + (nbr (k))))), (5, .int ((σ 7) ((8 * i) + k))), (0, .ref o), (1, .int (nI (i))), (2, .int (md)), (3, .int (nI (st9)))]) hx hb dX6_quenches_152 hl9 (k := 8) rfl (nI_add (k) 1) (by decide) rfl (fun sl9 hl9 => ?_)
                  refine lv_goto (tgt := 9) hx hb dX6_quenches_155 (by decide) ?_
                  exact ih9 (k + 1) (by omega)  _ _ _ (zM_w (by simp only [qQ, qC, qnum, qval, upd_same, upd_upd, if_pos c_1, if_neg (Int32.not_lt.mpr c_11), if_pos c_12, if_pos c_13, if_neg c_14, if_pos (Int32.not_le.mp c_15)]) Mz9) (lv_sub hl9 [5, 6, 7, 8, 0] rfl)
        ·
          refine lv_iconst (v := 0) hx hb dX6_quenches_102 (by decide) ?_
          refine lv_goto (tgt := 108) hx hb dX6_quenches_103 (by decide) ?_
          refine z_iast Z Mz9 7 (h0 := ad 8) (n := 96) (f := qQ (σ 7) (σ 8) (8 * i) (σ 1 st9) (σ 2 st9) md (k)) rfl (j := (8 * i) + k) (x := 0) (by omega) (by decide) (ws' := mW o ad T (upS (upS σ 8 (upd (qQ (σ 7) (σ 8) (8 * i) (σ 1 st9) (σ 2 st9) md (k)) ((8 * i) + k) 0)) 14 (upd (σ 14) i (qC (σ 7) (8 * i) md (σ 14 i) (k))))) rfl dX6_quenches_108 (fun Hp9 lc9 Mz9 => ?_)
          refine lv_aload_n hx hb dX6_quenches_109 rfl (lv_at hl9 4 rfl) ?_
          refine z_getf Z Mz9 hin6 0 rfl rfl 14 (by decide) L46 rfl (v := .ref (ad 14)) rfl dX6_quenches_110 ?_
          refine lv_iload_n hx hb dX6_quenches_113 rfl (lv_at hl9 5 rfl) ?_
          refine lv_aload_n hx hb dX6_quenches_114 rfl (lv_at hl9 4 rfl) ?_
          refine z_getf Z Mz9 hin6 0 rfl rfl 14 (by decide) L46 rfl (v := .ref (ad 14)) rfl dX6_quenches_115 ?_
          refine lv_iload_n hx hb dX6_quenches_118 rfl (lv_at hl9 5 rfl) ?_
          refine z_zald Z Mz9 13 (h0 := ad 14) (n := 12) (f := upd (σ 14) i (qC (σ 7) (8 * i) md (σ 14 i) (k))) rfl (j := i) (by omega) (by decide) dX6_quenches_119 ?_
          refine zn_top (y := qC (σ 7) (8 * i) md (σ 14 i) (k)) (upd_same _ _ _) ?_
          refine lv_if_ne (tgt := 146) hx hb dX6_quenches_120 (by decide) (fun c_16 => ?_) (fun c_16 => ?_)
          ·
            refine lv_iconst (v := 1) hx hb dX6_quenches_146 (by decide) ?_
            refine lv_goto (tgt := 151) hx hb dX6_quenches_147 (by decide) ?_
            refine z_zast Z Mz9 13 (h0 := ad 14) (n := 12) (f := upd (σ 14) i (qC (σ 7) (8 * i) md (σ 14 i) (k))) rfl (j := i) (x := 1) (by omega) (by decide) (hx1 := by decide) (ws' := mW o ad T (upS (upS σ 8 (upd (qQ (σ 7) (σ 8) (8 * i) (σ 1 st9) (σ 2 st9) md (k)) ((8 * i) + k) 0)) 14 (upd (upd (σ 14) i (qC (σ 7) (8 * i) md (σ 14 i) (k))) i 1))) rfl dX6_quenches_151 (fun Hp9 lc9 Mz9 => ?_)
            refine lv_iinc (v := nI (k + 1)) (lv' := [(4, .int (nI (k + 1))), (8, .int (((σ 1) st9) - (((σ 2) st9) * (imin (((σ 7) ((8 * i) + k)) / 10) (9))))), (7, .int (imin (((σ 7) ((8 * i) + k)) / 10) (9))), (6, .int ((σ 7) ((8 * i) + (nbr (k))))), (5, .int ((σ 7) ((8 * i) + k))), (0, .ref o), (1, .int (nI (i))), (2, .int (md)), (3, .int (nI (st9)))]) hx hb dX6_quenches_152 hl9 (k := 8) rfl (nI_add (k) 1) (by decide) rfl (fun sl9 hl9 => ?_)
            refine lv_goto (tgt := 9) hx hb dX6_quenches_155 (by decide) ?_
            exact ih9 (k + 1) (by omega)  _ _ _ (zM_w (by simp only [qQ, qC, qnum, qval, upd_same, upd_upd, if_pos c_1, if_pos (Int32.not_le.mp c_11), if_neg c_16]) Mz9) (lv_sub hl9 [5, 6, 7, 8, 0] rfl)
          ·
            refine lv_iload_n hx hb dX6_quenches_123 rfl (lv_at hl9 6 rfl) ?_
            refine lv_iconst (v := 1) hx hb dX6_quenches_124 (by decide) ?_
            refine lv_icmp_ne (tgt := 150) hx hb dX6_quenches_125 (by decide) (fun c_17 => ?_) (fun c_17 => ?_)
            ·
              refine lv_iconst (v := 0) hx hb dX6_quenches_150 (by decide) ?_
              refine z_zast Z Mz9 13 (h0 := ad 14) (n := 12) (f := upd (σ 14) i (qC (σ 7) (8 * i) md (σ 14 i) (k))) rfl (j := i) (x := 0) (by omega) (by decide) (hx1 := by decide) (ws' := mW o ad T (upS (upS σ 8 (upd (qQ (σ 7) (σ 8) (8 * i) (σ 1 st9) (σ 2 st9) md (k)) ((8 * i) + k) 0)) 14 (upd (upd (σ 14) i (qC (σ 7) (8 * i) md (σ 14 i) (k))) i 0))) rfl dX6_quenches_151 (fun Hp9 lc9 Mz9 => ?_)
              refine lv_iinc (v := nI (k + 1)) (lv' := [(4, .int (nI (k + 1))), (8, .int (((σ 1) st9) - (((σ 2) st9) * (imin (((σ 7) ((8 * i) + k)) / 10) (9))))), (7, .int (imin (((σ 7) ((8 * i) + k)) / 10) (9))), (6, .int ((σ 7) ((8 * i) + (nbr (k))))), (5, .int ((σ 7) ((8 * i) + k))), (0, .ref o), (1, .int (nI (i))), (2, .int (md)), (3, .int (nI (st9)))]) hx hb dX6_quenches_152 hl9 (k := 8) rfl (nI_add (k) 1) (by decide) rfl (fun sl9 hl9 => ?_)
              refine lv_goto (tgt := 9) hx hb dX6_quenches_155 (by decide) ?_
              exact ih9 (k + 1) (by omega)  _ _ _ (zM_w (by simp only [qQ, qC, qnum, qval, upd_same, upd_upd, if_pos c_1, if_pos (Int32.not_le.mp c_11), if_pos c_16, if_neg c_17]) Mz9) (lv_sub hl9 [5, 6, 7, 8, 0] rfl)
            ·
              refine lv_iload hx hb dX6_quenches_128 (lv_at hl9 3 rfl) ?_
              refine lv_iconst (v := 3) hx hb dX6_quenches_130 (by decide) ?_
              refine lv_iload hx hb dX6_quenches_131 (lv_at hl9 2 rfl) ?_
              refine lv_imul hx hb dX6_quenches_133 ?_
              refine lv_icmp_gt (tgt := 146) hx hb dX6_quenches_134 (by decide) (fun c_18 => ?_) (fun c_18 => ?_)
              ·
                refine lv_iconst (v := 1) hx hb dX6_quenches_146 (by decide) ?_
                refine lv_goto (tgt := 151) hx hb dX6_quenches_147 (by decide) ?_
                refine z_zast Z Mz9 13 (h0 := ad 14) (n := 12) (f := upd (σ 14) i (qC (σ 7) (8 * i) md (σ 14 i) (k))) rfl (j := i) (x := 1) (by omega) (by decide) (hx1 := by decide) (ws' := mW o ad T (upS (upS σ 8 (upd (qQ (σ 7) (σ 8) (8 * i) (σ 1 st9) (σ 2 st9) md (k)) ((8 * i) + k) 0)) 14 (upd (upd (σ 14) i (qC (σ 7) (8 * i) md (σ 14 i) (k))) i 1))) rfl dX6_quenches_151 (fun Hp9 lc9 Mz9 => ?_)
                refine lv_iinc (v := nI (k + 1)) (lv' := [(4, .int (nI (k + 1))), (8, .int (((σ 1) st9) - (((σ 2) st9) * (imin (((σ 7) ((8 * i) + k)) / 10) (9))))), (7, .int (imin (((σ 7) ((8 * i) + k)) / 10) (9))), (6, .int ((σ 7) ((8 * i) + (nbr (k))))), (5, .int ((σ 7) ((8 * i) + k))), (0, .ref o), (1, .int (nI (i))), (2, .int (md)), (3, .int (nI (st9)))]) hx hb dX6_quenches_152 hl9 (k := 8) rfl (nI_add (k) 1) (by decide) rfl (fun sl9 hl9 => ?_)
                refine lv_goto (tgt := 9) hx hb dX6_quenches_155 (by decide) ?_
                exact ih9 (k + 1) (by omega)  _ _ _ (zM_w (by simp only [qQ, qC, qnum, qval, upd_same, upd_upd, if_pos c_1, if_pos (Int32.not_le.mp c_11), if_pos c_16, if_pos c_17, if_pos c_18]) Mz9) (lv_sub hl9 [5, 6, 7, 8, 0] rfl)
              ·
                refine lv_iconst (v := 3) hx hb dX6_quenches_137 (by decide) ?_
                refine lv_iload hx hb dX6_quenches_138 (lv_at hl9 3 rfl) ?_
                refine lv_imul hx hb dX6_quenches_140 ?_
                refine lv_iload hx hb dX6_quenches_141 (lv_at hl9 2 rfl) ?_
                refine lv_icmp_ge (tgt := 150) hx hb dX6_quenches_143 (by decide) (fun c_19 => ?_) (fun c_19 => ?_)
                ·
                  refine lv_iconst (v := 0) hx hb dX6_quenches_150 (by decide) ?_
                  refine z_zast Z Mz9 13 (h0 := ad 14) (n := 12) (f := upd (σ 14) i (qC (σ 7) (8 * i) md (σ 14 i) (k))) rfl (j := i) (x := 0) (by omega) (by decide) (hx1 := by decide) (ws' := mW o ad T (upS (upS σ 8 (upd (qQ (σ 7) (σ 8) (8 * i) (σ 1 st9) (σ 2 st9) md (k)) ((8 * i) + k) 0)) 14 (upd (upd (σ 14) i (qC (σ 7) (8 * i) md (σ 14 i) (k))) i 0))) rfl dX6_quenches_151 (fun Hp9 lc9 Mz9 => ?_)
                  refine lv_iinc (v := nI (k + 1)) (lv' := [(4, .int (nI (k + 1))), (8, .int (((σ 1) st9) - (((σ 2) st9) * (imin (((σ 7) ((8 * i) + k)) / 10) (9))))), (7, .int (imin (((σ 7) ((8 * i) + k)) / 10) (9))), (6, .int ((σ 7) ((8 * i) + (nbr (k))))), (5, .int ((σ 7) ((8 * i) + k))), (0, .ref o), (1, .int (nI (i))), (2, .int (md)), (3, .int (nI (st9)))]) hx hb dX6_quenches_152 hl9 (k := 8) rfl (nI_add (k) 1) (by decide) rfl (fun sl9 hl9 => ?_)
                  refine lv_goto (tgt := 9) hx hb dX6_quenches_155 (by decide) ?_
                  exact ih9 (k + 1) (by omega)  _ _ _ (zM_w (by simp only [qQ, qC, qnum, qval, upd_same, upd_upd, if_pos c_1, if_pos (Int32.not_le.mp c_11), if_pos c_16, if_pos c_17, if_neg c_18, if_neg (Int32.not_lt.mpr c_19)]) Mz9) (lv_sub hl9 [5, 6, 7, 8, 0] rfl)
                ·
                  refine lv_iconst (v := 1) hx hb dX6_quenches_146 (by decide) ?_
                  refine lv_goto (tgt := 151) hx hb dX6_quenches_147 (by decide) ?_
                  refine z_zast Z Mz9 13 (h0 := ad 14) (n := 12) (f := upd (σ 14) i (qC (σ 7) (8 * i) md (σ 14 i) (k))) rfl (j := i) (x := 1) (by omega) (by decide) (hx1 := by decide) (ws' := mW o ad T (upS (upS σ 8 (upd (qQ (σ 7) (σ 8) (8 * i) (σ 1 st9) (σ 2 st9) md (k)) ((8 * i) + k) 0)) 14 (upd (upd (σ 14) i (qC (σ 7) (8 * i) md (σ 14 i) (k))) i 1))) rfl dX6_quenches_151 (fun Hp9 lc9 Mz9 => ?_)
                  refine lv_iinc (v := nI (k + 1)) (lv' := [(4, .int (nI (k + 1))), (8, .int (((σ 1) st9) - (((σ 2) st9) * (imin (((σ 7) ((8 * i) + k)) / 10) (9))))), (7, .int (imin (((σ 7) ((8 * i) + k)) / 10) (9))), (6, .int ((σ 7) ((8 * i) + (nbr (k))))), (5, .int ((σ 7) ((8 * i) + k))), (0, .ref o), (1, .int (nI (i))), (2, .int (md)), (3, .int (nI (st9)))]) hx hb dX6_quenches_152 hl9 (k := 8) rfl (nI_add (k) 1) (by decide) rfl (fun sl9 hl9 => ?_)
                  refine lv_goto (tgt := 9) hx hb dX6_quenches_155 (by decide) ?_
                  exact ih9 (k + 1) (by omega)  _ _ _ (zM_w (by simp only [qQ, qC, qnum, qval, upd_same, upd_upd, if_pos c_1, if_pos (Int32.not_le.mp c_11), if_pos c_16, if_pos c_17, if_neg c_18, if_pos (Int32.not_le.mp c_19)]) Mz9) (lv_sub hl9 [5, 6, 7, 8, 0] rfl)
  exact LP9_1 (8 - 0) (0) (by omega)  _ _ _ (zM_w (by simp only [qQ, qC, upd_id, upS_id]) Mz9) (lv_sub hl9 [2, 3, 4, 1, 0] rfl)
set_option maxHeartbeats 4000000 in
set_option maxRecDepth 100000 in
theorem cm_giver (l : Launch) (D : va_G) (T : Nat → ClassId) (o : Nat) (ad : Nat → Nat) (σ : Nat → Nat → Int32) (i d j : Nat) (hi : i < 12) (hd : d < 4) (hj : j < 8) : ZI l yX6_giver wsX6_giver (zrm 1 23) D T (mW o ad T σ) (mW o ad T σ) [.ref o, .int (nI (i)), .int (nI (d)), .int (nI (j))] (GV (ovr (σ 7) (σ 22) (8 * i) (8 * d)) j) 0 0 := by
  simp only [GV_eq]
  refine z_inI (cc := cX6_giver) (maxL := 5) (rt := .int) (by decide +kernel) rfl (Nat.le_of_ble_eq_true rfl) ?_
  intro p e s m args below meth c sl9 A Q Z hnm Mz9 hl9 hret
  have Z : zC p s m args c cX6_giver 5 RX6 wsX6_giver D T A := Z
  have hx := Z.1.1
  have hb := Z.1.2.1
  have hts := Z.1.2.2.2.2
  have hin6 : ∀ w ∈ wsX60, w ∈ wsX6_giver := fun w h => List.mem_cons_of_mem _ (List.mem_append_right _ h)
  have hH0 : s.heap = s.heap := rfl
  have hl9 : lv_has sl9 5 [(0, .ref o), (1, .int (nI (i))), (2, .int (nI (d))), (3, .int (nI (j)))] := hl9
  refine lv_iconst (v := 1) hx hb dX6_giver_0 (by decide) ?_
  refine lv_istore (lv' := [(4, .int 1), (0, .ref o), (1, .int (nI (i))), (2, .int (nI (d))), (3, .int (nI (j)))]) hx hb dX6_giver_1 hl9 (by decide) rfl (fun sl9 hl9 => ?_)
  have LP3_1 : ∀ (n3 k : Nat), k + n3 = 8 → (∀ mm : Nat, k + mm = 8 → gvr (ovr (σ 7) (σ 22) (8 * i) (8 * d)) j 7 = gvr (ovr (σ 7) (σ 22) (8 * i) (8 * d)) j mm) → ∀ (Hp9 : Heap) (lc9 : List Loc) (sl9 : Array Slot), zM D A s.heap (mW o ad T σ) Hp9 lc9 → lv_has sl9 5 [(0, .ref o), (1, .int (nI (i))), (2, .int (nI (d))), (3, .int (nI (j))), (4, .int (nI (k)))] → W p l e (zrm 1 23) s m args below meth c Hp9 lc9 0 0 Q (F0 m 3 sl9 []) := by
    intro n3
    induction n3 with
    | zero =>
      intro k hk9 h90 Hp9 lc9 sl9 Mz9 hl9
      obtain rfl : 8 = k := by omega
      refine lv_iload hx hb dX6_giver_3 (lv_at hl9 4 rfl) ?_
      refine lv_bipush (v := 8) hx hb dX6_giver_5 (by decide) ?_
      refine zn_icmp_ge (a := 8) (b := 8) (tgt := 67) (by omega) (by decide) hx hb dX6_giver_7 (by decide) (fun _ => ?_) (fun h => absurd h (by omega))
      refine lv_iconst (v := (-1)) hx hb dX6_giver_67 (by decide) ?_
      exact hret _ _ _ _ _ sl9 _ _ Mz9 (rfl) (by rw [h90 0 (by omega)]; rfl) (rfl) (Nat.le_refl _) (Nat.le_refl _) dX6_giver_68
    | succ n3 ih3 =>
      intro k hk9 h90 Hp9 lc9 sl9 Mz9 hl9
      refine lv_iload hx hb dX6_giver_3 (lv_at hl9 4 rfl) ?_
      refine lv_bipush (v := 8) hx hb dX6_giver_5 (by decide) ?_
      refine zn_icmp_ge (a := k) (b := 8) (tgt := 67) (by omega) (by decide) hx hb dX6_giver_7 (by decide) (fun h => absurd h (by omega)) (fun _ => ?_)
      refine lv_iload_n hx hb dX6_giver_10 rfl (lv_at hl9 3 rfl) ?_
      refine lv_iload hx hb dX6_giver_11 (lv_at hl9 4 rfl) ?_
      refine zn_icmp_lt (a := j) (b := k) (tgt := 34) (by omega) (by omega) hx hb dX6_giver_13 (by decide) (fun c_1 => ?_) (fun c_1 => ?_)
      ·
        refine lv_iload_n hx hb dX6_giver_34 rfl (lv_at hl9 3 rfl) ?_
        refine lv_iload hx hb dX6_giver_35 (lv_at hl9 4 rfl) ?_
        refine zn_iadd (a := j) (b := k) hx hb dX6_giver_37 ?_
        refine lv_bipush (v := 8) hx hb dX6_giver_38 (by decide) ?_
        refine zn_icmp_ge (a := j + k) (b := 8) (tgt := 61) (by omega) (by decide) hx hb dX6_giver_40 (by decide) (fun c_2 => ?_) (fun c_2 => ?_)
        ·
          refine lv_iinc (v := nI (k + 1)) (lv' := [(4, .int (nI (k + 1))), (0, .ref o), (1, .int (nI (i))), (2, .int (nI (d))), (3, .int (nI (j)))]) hx hb dX6_giver_61 hl9 (k := 4) rfl (nI_add (k) 1) (by decide) rfl (fun sl9 hl9 => ?_)
          refine lv_goto (tgt := 3) hx hb dX6_giver_64 (by decide) ?_
          exact ih3 (k + 1) (by omega) (fun mm hmm => by rw [h90 (mm + 1) (by omega), gvr, show 7 - mm = k by omega]; simp only [gv2, if_pos c_1, if_neg (Nat.not_lt.mpr c_2)]) _ _ _ Mz9 (lv_sub hl9 [1, 2, 3, 4, 0] rfl)
        ·
          refine lv_aload_n hx hb dX6_giver_43 rfl (lv_at hl9 0 rfl) ?_
          refine lv_iload_n hx hb dX6_giver_44 rfl (lv_at hl9 1 rfl) ?_
          refine lv_iload_n hx hb dX6_giver_45 rfl (lv_at hl9 2 rfl) ?_
          refine lv_iload_n hx hb dX6_giver_46 rfl (lv_at hl9 3 rfl) ?_
          refine lv_iload hx hb dX6_giver_47 (lv_at hl9 4 rfl) ?_
          refine zn_iadd (a := j) (b := k) hx hb dX6_giver_49 ?_
          refine z_callAi (As := [.int (nI (i)), .int (nI (d)), .int (nI (j + k))]) (rest := []) (rv := ovr (σ 7) (σ 22) (8 * i) (8 * d) (j + k)) (wc' := mW o ad T σ) Z Mz9 (cm_over l D T o ad (σ) (i) (d) (j + k) (by omega) (by omega) (by omega)) (cwV 3 hts gX6_giver_X6_over rfl rfl rfl (by decide +kernel) ⟨by decide, by decide⟩) (va_recv Z.2.1 Mz9.1 (ci := 7) (q0 := 0) rfl rfl) rfl hl9.1 (Nat.le_of_ble_eq_true rfl) dX6_giver_50 ⟨by decide, by decide⟩ rfl (fun Hp9 lc9 Mz9 => ?_)
          refine lv_if_le (tgt := 61) hx hb dX6_giver_53 (by decide) (fun c_3 => ?_) (fun c_3 => ?_)
          ·
            refine lv_iinc (v := nI (k + 1)) (lv' := [(4, .int (nI (k + 1))), (0, .ref o), (1, .int (nI (i))), (2, .int (nI (d))), (3, .int (nI (j)))]) hx hb dX6_giver_61 hl9 (k := 4) rfl (nI_add (k) 1) (by decide) rfl (fun sl9 hl9 => ?_)
            refine lv_goto (tgt := 3) hx hb dX6_giver_64 (by decide) ?_
            exact ih3 (k + 1) (by omega) (fun mm hmm => by rw [h90 (mm + 1) (by omega), gvr, show 7 - mm = k by omega]; simp only [gv2, if_pos c_1, if_pos (Nat.not_le.mp c_2), if_neg (Int32.not_lt.mpr c_3)]) _ _ _ Mz9 (lv_sub hl9 [1, 2, 3, 4, 0] rfl)
          ·
            refine lv_iload_n hx hb dX6_giver_56 rfl (lv_at hl9 3 rfl) ?_
            refine lv_iload hx hb dX6_giver_57 (lv_at hl9 4 rfl) ?_
            refine zn_iadd (a := j) (b := k) hx hb dX6_giver_59 ?_
            exact hret _ _ _ _ _ sl9 _ _ Mz9 (rfl) (by rw [h90 (n3 + 1) (by omega), gvr, show 7 - n3 = k by omega]; simp only [gv2, if_pos c_1, if_pos (Nat.not_le.mp c_2), if_pos (Int32.not_le.mp c_3)]) (rfl) (Nat.le_refl _) (Nat.le_refl _) dX6_giver_60
      ·
        refine lv_aload_n hx hb dX6_giver_16 rfl (lv_at hl9 0 rfl) ?_
        refine lv_iload_n hx hb dX6_giver_17 rfl (lv_at hl9 1 rfl) ?_
        refine lv_iload_n hx hb dX6_giver_18 rfl (lv_at hl9 2 rfl) ?_
        refine lv_iload_n hx hb dX6_giver_19 rfl (lv_at hl9 3 rfl) ?_
        refine lv_iload hx hb dX6_giver_20 (lv_at hl9 4 rfl) ?_
        refine zn_isub (a := j) (b := k) (by omega) hx hb dX6_giver_22 ?_
        refine z_callAi (As := [.int (nI (i)), .int (nI (d)), .int (nI (j - k))]) (rest := []) (rv := ovr (σ 7) (σ 22) (8 * i) (8 * d) (j - k)) (wc' := mW o ad T σ) Z Mz9 (cm_over l D T o ad (σ) (i) (d) (j - k) (by omega) (by omega) (by omega)) (cwV 3 hts gX6_giver_X6_over rfl rfl rfl (by decide +kernel) ⟨by decide, by decide⟩) (va_recv Z.2.1 Mz9.1 (ci := 7) (q0 := 0) rfl rfl) rfl hl9.1 (Nat.le_of_ble_eq_true rfl) dX6_giver_23 ⟨by decide, by decide⟩ rfl (fun Hp9 lc9 Mz9 => ?_)
        refine lv_if_le (tgt := 34) hx hb dX6_giver_26 (by decide) (fun c_4 => ?_) (fun c_4 => ?_)
        ·
          refine lv_iload_n hx hb dX6_giver_34 rfl (lv_at hl9 3 rfl) ?_
          refine lv_iload hx hb dX6_giver_35 (lv_at hl9 4 rfl) ?_
          refine zn_iadd (a := j) (b := k) hx hb dX6_giver_37 ?_
          refine lv_bipush (v := 8) hx hb dX6_giver_38 (by decide) ?_
          refine zn_icmp_ge (a := j + k) (b := 8) (tgt := 61) (by omega) (by decide) hx hb dX6_giver_40 (by decide) (fun c_5 => ?_) (fun c_5 => ?_)
          ·
            refine lv_iinc (v := nI (k + 1)) (lv' := [(4, .int (nI (k + 1))), (0, .ref o), (1, .int (nI (i))), (2, .int (nI (d))), (3, .int (nI (j)))]) hx hb dX6_giver_61 hl9 (k := 4) rfl (nI_add (k) 1) (by decide) rfl (fun sl9 hl9 => ?_)
            refine lv_goto (tgt := 3) hx hb dX6_giver_64 (by decide) ?_
            exact ih3 (k + 1) (by omega) (fun mm hmm => by rw [h90 (mm + 1) (by omega), gvr, show 7 - mm = k by omega]; simp only [gv2, if_neg c_1, if_neg (Int32.not_lt.mpr c_4), if_neg (Nat.not_lt.mpr c_5)]) _ _ _ Mz9 (lv_sub hl9 [1, 2, 3, 4, 0] rfl)
          ·
            refine lv_aload_n hx hb dX6_giver_43 rfl (lv_at hl9 0 rfl) ?_
            refine lv_iload_n hx hb dX6_giver_44 rfl (lv_at hl9 1 rfl) ?_
            refine lv_iload_n hx hb dX6_giver_45 rfl (lv_at hl9 2 rfl) ?_
            refine lv_iload_n hx hb dX6_giver_46 rfl (lv_at hl9 3 rfl) ?_
            refine lv_iload hx hb dX6_giver_47 (lv_at hl9 4 rfl) ?_
            refine zn_iadd (a := j) (b := k) hx hb dX6_giver_49 ?_
            refine z_callAi (As := [.int (nI (i)), .int (nI (d)), .int (nI (j + k))]) (rest := []) (rv := ovr (σ 7) (σ 22) (8 * i) (8 * d) (j + k)) (wc' := mW o ad T σ) Z Mz9 (cm_over l D T o ad (σ) (i) (d) (j + k) (by omega) (by omega) (by omega)) (cwV 3 hts gX6_giver_X6_over rfl rfl rfl (by decide +kernel) ⟨by decide, by decide⟩) (va_recv Z.2.1 Mz9.1 (ci := 7) (q0 := 0) rfl rfl) rfl hl9.1 (Nat.le_of_ble_eq_true rfl) dX6_giver_50 ⟨by decide, by decide⟩ rfl (fun Hp9 lc9 Mz9 => ?_)
            refine lv_if_le (tgt := 61) hx hb dX6_giver_53 (by decide) (fun c_6 => ?_) (fun c_6 => ?_)
            ·
              refine lv_iinc (v := nI (k + 1)) (lv' := [(4, .int (nI (k + 1))), (0, .ref o), (1, .int (nI (i))), (2, .int (nI (d))), (3, .int (nI (j)))]) hx hb dX6_giver_61 hl9 (k := 4) rfl (nI_add (k) 1) (by decide) rfl (fun sl9 hl9 => ?_)
              refine lv_goto (tgt := 3) hx hb dX6_giver_64 (by decide) ?_
              exact ih3 (k + 1) (by omega) (fun mm hmm => by rw [h90 (mm + 1) (by omega), gvr, show 7 - mm = k by omega]; simp only [gv2, if_neg c_1, if_neg (Int32.not_lt.mpr c_4), if_pos (Nat.not_le.mp c_5), if_neg (Int32.not_lt.mpr c_6)]) _ _ _ Mz9 (lv_sub hl9 [1, 2, 3, 4, 0] rfl)
            ·
              refine lv_iload_n hx hb dX6_giver_56 rfl (lv_at hl9 3 rfl) ?_
              refine lv_iload hx hb dX6_giver_57 (lv_at hl9 4 rfl) ?_
              refine zn_iadd (a := j) (b := k) hx hb dX6_giver_59 ?_
              exact hret _ _ _ _ _ sl9 _ _ Mz9 (rfl) (by rw [h90 (n3 + 1) (by omega), gvr, show 7 - n3 = k by omega]; simp only [gv2, if_neg c_1, if_neg (Int32.not_lt.mpr c_4), if_pos (Nat.not_le.mp c_5), if_pos (Int32.not_le.mp c_6)]) (rfl) (Nat.le_refl _) (Nat.le_refl _) dX6_giver_60
        ·
          refine lv_iload_n hx hb dX6_giver_29 rfl (lv_at hl9 3 rfl) ?_
          refine lv_iload hx hb dX6_giver_30 (lv_at hl9 4 rfl) ?_
          refine zn_isub (a := j) (b := k) (by omega) hx hb dX6_giver_32 ?_
          exact hret _ _ _ _ _ sl9 _ _ Mz9 (rfl) (by rw [h90 (n3 + 1) (by omega), gvr, show 7 - n3 = k by omega]; simp only [gv2, if_neg c_1, if_pos (Int32.not_le.mp c_4)]) (rfl) (Nat.le_refl _) (Nat.le_refl _) dX6_giver_33
  exact LP3_1 (8 - 1) (1) (by omega) (fun mm hmm => by rw [show mm = 7 by omega]) _ _ _ Mz9 (lv_sub hl9 [1, 2, 3, 4, 0] rfl)
set_option maxHeartbeats 4000000 in
set_option maxRecDepth 100000 in
theorem cm_isRising (l : Launch) (D : va_G) (T : Nat → ClassId) (o : Nat) (ad : Nat → Nat) (σ : Nat → Nat → Int32) (nj : Nat) (h0 : 0 < nj) (h12 : nj ≤ 12) (h26 : σ 26 0 = nI nj) : ZI l yX6_isRising wsX6_isRising (zrm 1 21) D T (mW o ad T σ) (mW o ad T σ) [.ref o] (if btw (σ 28 0) (σ 27 (nj - 1)) < btw (σ 28 0) (σ 27 0) then (0 : Int32) else 1) 0 0 := by
  refine z_inI (cc := cX6_isRising) (maxL := 1) (rt := .boolean) (by decide +kernel) rfl (Nat.le_of_ble_eq_true rfl) ?_
  intro p e s m args below meth c sl9 A Q Z hnm Mz9 hl9 hret
  have Z : zC p s m args c cX6_isRising 1 RX6 wsX6_isRising D T A := Z
  have hx := Z.1.1
  have hb := Z.1.2.1
  have hts := Z.1.2.2.2.2
  have hin6 : ∀ w ∈ wsX60, w ∈ wsX6_isRising := fun w h => List.mem_cons_of_mem _ (List.mem_append_right _ h)
  have hH0 : s.heap = s.heap := rfl
  have L86 := hts (.fieldLink RX6 86 "AnvilHouseModel" "furnace" "I") (by decide +kernel)
  have L77 := hts (.fieldLink RX6 77 "AnvilHouseModel" "job" "[I") (by decide +kernel)
  have L186 := hts (.fieldLink RX6 186 "AnvilHouseModel" "jobs" "I") (by decide +kernel)
  have hl9 : lv_has sl9 1 [(0, .ref o)] := hl9
  refine lv_aload_n hx hb dX6_isRising_0 rfl (lv_at hl9 0 rfl) ?_
  refine z_getf Z Mz9 hin6 0 rfl rfl 28 (by decide) L86 rfl (v := .int (σ 28 0)) rfl dX6_isRising_1 ?_
  refine lv_aload_n hx hb dX6_isRising_4 rfl (lv_at hl9 0 rfl) ?_
  refine z_getf Z Mz9 hin6 0 rfl rfl 27 (by decide) L77 rfl (v := .ref (ad 27)) rfl dX6_isRising_5 ?_
  refine lv_iconst (v := 0) hx hb dX6_isRising_8 (by decide) ?_
  refine z_iald Z Mz9 23 (h0 := ad 27) (n := 12) (f := σ 27) rfl (j := 0) (by omega) (by decide) dX6_isRising_9 ?_
  refine z_callSi (As := [.int (σ 28 0), .int ((σ 27) 0)]) (rest := []) Z.1 (cm_between l (σ 28 0) ((σ 27) 0)) (va_cwS 2 hts gX6_isRising_X6_between rfl rfl rfl (by decide +kernel) ⟨by decide, by decide⟩) rfl hl9.1 (Nat.le_of_ble_eq_true rfl) dX6_isRising_10 ⟨by decide, by decide⟩ rfl ?_
  refine lv_aload_n hx hb dX6_isRising_13 rfl (lv_at hl9 0 rfl) ?_
  refine z_getf Z Mz9 hin6 0 rfl rfl 28 (by decide) L86 rfl (v := .int (σ 28 0)) rfl dX6_isRising_14 ?_
  refine lv_aload_n hx hb dX6_isRising_17 rfl (lv_at hl9 0 rfl) ?_
  refine z_getf Z Mz9 hin6 0 rfl rfl 27 (by decide) L77 rfl (v := .ref (ad 27)) rfl dX6_isRising_18 ?_
  refine lv_aload_n hx hb dX6_isRising_21 rfl (lv_at hl9 0 rfl) ?_
  refine z_getf Z Mz9 hin6 0 rfl rfl 26 (by decide) L186 rfl (v := .int (σ 26 0)) rfl dX6_isRising_22 ?_
  refine zn_top (y := nI (nj)) (h26) ?_
  refine lv_iconst (v := 1) hx hb dX6_isRising_25 (by decide) ?_
  refine zn_isub (a := nj) (b := 1) (by omega) hx hb dX6_isRising_26 ?_
  refine z_iald Z Mz9 23 (h0 := ad 27) (n := 12) (f := σ 27) rfl (j := nj - 1) (by omega) (by decide) dX6_isRising_27 ?_
  refine z_callSi (As := [.int (σ 28 0), .int ((σ 27) (nj - 1))]) (rest := [.int (btw (σ 28 0) ((σ 27) 0))]) Z.1 (cm_between l (σ 28 0) ((σ 27) (nj - 1))) (va_cwS 2 hts gX6_isRising_X6_between rfl rfl rfl (by decide +kernel) ⟨by decide, by decide⟩) rfl hl9.1 (Nat.le_of_ble_eq_true rfl) dX6_isRising_28 ⟨by decide, by decide⟩ rfl ?_
  refine lv_icmp_gt (tgt := 38) hx hb dX6_isRising_31 (by decide) (fun c_1 => ?_) (fun c_1 => ?_)
  ·
    refine lv_iconst (v := 0) hx hb dX6_isRising_38 (by decide) ?_
    exact hret _ _ _ _ _ sl9 _ _ Mz9 (rfl) (by simp only [if_pos c_1]) (rfl) (Nat.le_refl _) (Nat.le_refl _) dX6_isRising_39
  ·
    refine lv_iconst (v := 1) hx hb dX6_isRising_34 (by decide) ?_
    refine lv_goto (tgt := 39) hx hb dX6_isRising_35 (by decide) ?_
    exact hret _ _ _ _ _ sl9 _ _ Mz9 (rfl) (by simp only [if_neg c_1]) (rfl) (Nat.le_refl _) (Nat.le_refl _) dX6_isRising_39
set_option maxHeartbeats 4000000 in
set_option maxRecDepth 100000 in
theorem cm_jobAt (l : Launch) (D : va_G) (T : Nat → ClassId) (o : Nat) (ad : Nat → Nat) (σ : Nat → Nat → Int32) (nj q : Nat) (h0 : 0 < nj) (h12 : nj ≤ 12) (h26 : σ 26 0 = nI nj) (hq : q < nj) : ZI l yX6_jobAt wsX6_jobAt (zrm 2 41) D T (mW o ad T σ) (mW o ad T σ) [.ref o, .int (nI (q))] (if (if btw (σ 28 0) (σ 27 (nj - 1)) < btw (σ 28 0) (σ 27 0) then (0 : Int32) else 1) = 0 then σ 27 (nj - 1 - q) else σ 27 q) 0 0 := by
  refine z_inI (cc := cX6_jobAt) (maxL := 2) (rt := .int) (by decide +kernel) rfl (Nat.le_of_ble_eq_true rfl) ?_
  intro p e s m args below meth c sl9 A Q Z hnm Mz9 hl9 hret
  have Z : zC p s m args c cX6_jobAt 2 RX6 wsX6_jobAt D T A := Z
  have hx := Z.1.1
  have hb := Z.1.2.1
  have hts := Z.1.2.2.2.2
  have hin6 : ∀ w ∈ wsX60, w ∈ wsX6_jobAt := fun w h => List.mem_cons_of_mem _ (List.mem_append_right _ h)
  have hH0 : s.heap = s.heap := rfl
  have L77 := hts (.fieldLink RX6 77 "AnvilHouseModel" "job" "[I") (by decide +kernel)
  have L186 := hts (.fieldLink RX6 186 "AnvilHouseModel" "jobs" "I") (by decide +kernel)
  have hl9 : lv_has sl9 2 [(0, .ref o), (1, .int (nI (q)))] := hl9
  refine lv_aload_n hx hb dX6_jobAt_0 rfl (lv_at hl9 0 rfl) ?_
  refine z_callAi (As := []) (rest := []) (rv := if btw (σ 28 0) ((σ 27) (nj - 1)) < btw (σ 28 0) ((σ 27) 0) then (0 : Int32) else 1) (wc' := mW o ad T σ) Z Mz9 (cm_isRising l D T o ad (σ) nj (by omega) (by omega) h26) (cwV 0 hts gX6_jobAt_X6_isRising rfl rfl rfl (by decide +kernel) ⟨by decide, by decide⟩) (va_recv Z.2.1 Mz9.1 (ci := 7) (q0 := 0) rfl rfl) rfl hl9.1 (Nat.le_of_ble_eq_true rfl) dX6_jobAt_1 ⟨by decide, by decide⟩ rfl (fun Hp9 lc9 Mz9 => ?_)
  refine lv_if_eq (tgt := 16) hx hb dX6_jobAt_4 (by decide) (fun c_1 => ?_) (fun c_1 => ?_)
  ·
    refine lv_aload_n hx hb dX6_jobAt_16 rfl (lv_at hl9 0 rfl) ?_
    refine z_getf Z Mz9 hin6 0 rfl rfl 27 (by decide) L77 rfl (v := .ref (ad 27)) rfl dX6_jobAt_17 ?_
    refine lv_aload_n hx hb dX6_jobAt_20 rfl (lv_at hl9 0 rfl) ?_
    refine z_getf Z Mz9 hin6 0 rfl rfl 26 (by decide) L186 rfl (v := .int (σ 26 0)) rfl dX6_jobAt_21 ?_
    refine zn_top (y := nI (nj)) (h26) ?_
    refine lv_iconst (v := 1) hx hb dX6_jobAt_24 (by decide) ?_
    refine zn_isub (a := nj) (b := 1) (by omega) hx hb dX6_jobAt_25 ?_
    refine lv_iload_n hx hb dX6_jobAt_26 rfl (lv_at hl9 1 rfl) ?_
    refine zn_isub (a := nj - 1) (b := q) (by omega) hx hb dX6_jobAt_27 ?_
    refine z_iald Z Mz9 23 (h0 := ad 27) (n := 12) (f := σ 27) rfl (j := (nj - 1) - q) (by omega) (by decide) dX6_jobAt_28 ?_
    exact hret _ _ _ _ _ sl9 _ _ Mz9 (rfl) (by simp only [if_pos c_1]) (rfl) (Nat.le_refl _) (Nat.le_refl _) dX6_jobAt_29
  ·
    refine lv_aload_n hx hb dX6_jobAt_7 rfl (lv_at hl9 0 rfl) ?_
    refine z_getf Z Mz9 hin6 0 rfl rfl 27 (by decide) L77 rfl (v := .ref (ad 27)) rfl dX6_jobAt_8 ?_
    refine lv_iload_n hx hb dX6_jobAt_11 rfl (lv_at hl9 1 rfl) ?_
    refine z_iald Z Mz9 23 (h0 := ad 27) (n := 12) (f := σ 27) rfl (j := q) (by omega) (by decide) dX6_jobAt_12 ?_
    refine lv_goto (tgt := 29) hx hb dX6_jobAt_13 (by decide) ?_
    exact hret _ _ _ _ _ sl9 _ _ Mz9 (rfl) (by simp only [if_neg c_1]) (rfl) (Nat.le_refl _) (Nat.le_refl _) dX6_jobAt_29
set_option maxHeartbeats 4000000 in
set_option maxRecDepth 100000 in
theorem cm_told (l : Launch) (D : va_G) (T : Nat → ClassId) (o : Nat) (ad : Nat → Nat) (σ : Nat → Nat → Int32) (i w : Nat) (hi : i < 12) (hw : w < 9) : ZI l yX6_told wsX6_told (zrm 1 23) D T (mW o ad T σ) (mW o ad T σ) [.ref o, .int (nI (i)), .int (nI (w))] (tld σ i w) 0 0 := by
  refine z_inI (cc := cX6_told) (maxL := 3) (rt := .int) (by decide +kernel) rfl (Nat.le_of_ble_eq_true rfl) ?_
  intro p e s m args below meth c sl9 A Q Z hnm Mz9 hl9 hret
  have Z : zC p s m args c cX6_told 3 RX6 wsX6_told D T A := Z
  have hx := Z.1.1
  have hb := Z.1.2.1
  have hts := Z.1.2.2.2.2
  have hin6 : ∀ w ∈ wsX60, w ∈ wsX6_told := fun w h => List.mem_cons_of_mem _ (List.mem_append_right _ h)
  have hH0 : s.heap = s.heap := rfl
  have L31 := hts (.fieldLink RX6 31 "AnvilHouseModel" "skin" "[I") (by decide +kernel)
  have L34 := hts (.fieldLink RX6 34 "AnvilHouseModel" "core" "[I") (by decide +kernel)
  have L40 := hts (.fieldLink RX6 40 "AnvilHouseModel" "heats" "[I") (by decide +kernel)
  have L37 := hts (.fieldLink RX6 37 "AnvilHouseModel" "grain" "[I") (by decide +kernel)
  have L43 := hts (.fieldLink RX6 43 "AnvilHouseModel" "laps" "[I") (by decide +kernel)
  have L46 := hts (.fieldLink RX6 46 "AnvilHouseModel" "hasCrack" "[Z") (by decide +kernel)
  have L50 := hts (.fieldLink RX6 50 "AnvilHouseModel" "layers" "[I") (by decide +kernel)
  have L53 := hts (.fieldLink RX6 53 "AnvilHouseModel" "load" "[I") (by decide +kernel)
  have hl9 : lv_has sl9 3 [(0, .ref o), (1, .int (nI (i))), (2, .int (nI (w)))] := hl9
  rcases (show w = 0 ∨ w = 1 ∨ w = 2 ∨ w = 3 ∨ w = 4 ∨ w = 5 ∨ w = 6 ∨ w = 7 ∨ w = 8 by omega) with rfl | rfl | rfl | rfl | rfl | rfl | rfl | rfl | rfl
  ·
    refine lv_iload_n hx hb dX6_told_0 rfl (lv_at hl9 2 rfl) ?_
    refine lv_tableIn (tgt := 48) (off := 47) hx hb dX6_told_1 (by decide) (by decide) rfl (by decide) ?_
    refine lv_aload_n hx hb dX6_told_48 rfl (lv_at hl9 0 rfl) ?_
    refine z_getf Z Mz9 hin6 0 rfl rfl 9 (by decide) L31 rfl (v := .ref (ad 9)) rfl dX6_told_49 ?_
    refine lv_iload_n hx hb dX6_told_52 rfl (lv_at hl9 1 rfl) ?_
    refine z_iald Z Mz9 8 (h0 := ad 9) (n := 12) (f := σ 9) rfl (j := i) (by omega) (by decide) dX6_told_53 ?_
    exact hret _ _ _ _ _ sl9 _ _ Mz9 (rfl) (rfl) (rfl) (Nat.le_refl _) (Nat.le_refl _) dX6_told_54
  ·
    refine lv_iload_n hx hb dX6_told_0 rfl (lv_at hl9 2 rfl) ?_
    refine lv_tableIn (tgt := 55) (off := 54) hx hb dX6_told_1 (by decide) (by decide) rfl (by decide) ?_
    refine lv_aload_n hx hb dX6_told_55 rfl (lv_at hl9 0 rfl) ?_
    refine z_getf Z Mz9 hin6 0 rfl rfl 10 (by decide) L34 rfl (v := .ref (ad 10)) rfl dX6_told_56 ?_
    refine lv_iload_n hx hb dX6_told_59 rfl (lv_at hl9 1 rfl) ?_
    refine z_iald Z Mz9 9 (h0 := ad 10) (n := 12) (f := σ 10) rfl (j := i) (by omega) (by decide) dX6_told_60 ?_
    exact hret _ _ _ _ _ sl9 _ _ Mz9 (rfl) (rfl) (rfl) (Nat.le_refl _) (Nat.le_refl _) dX6_told_61
  ·
    refine lv_iload_n hx hb dX6_told_0 rfl (lv_at hl9 2 rfl) ?_
    refine lv_tableIn (tgt := 62) (off := 61) hx hb dX6_told_1 (by decide) (by decide) rfl (by decide) ?_
    refine lv_aload_n hx hb dX6_told_62 rfl (lv_at hl9 0 rfl) ?_
    refine lv_iload_n hx hb dX6_told_63 rfl (lv_at hl9 1 rfl) ?_
    refine z_callAi (As := [.int (nI (i))]) (rest := []) (rv := VO (σ 7) (8 * i)) (wc' := mW o ad T σ) Z Mz9 (cm_volume l D T o ad (σ) (i) (by omega)) (cwV 1 hts gX6_told_X6_volume rfl rfl rfl (by decide +kernel) ⟨by decide, by decide⟩) (va_recv Z.2.1 Mz9.1 (ci := 7) (q0 := 0) rfl rfl) rfl hl9.1 (Nat.le_of_ble_eq_true rfl) dX6_told_64 ⟨by decide, by decide⟩ rfl (fun Hp9 lc9 Mz9 => ?_)
    exact hret _ _ _ _ _ sl9 _ _ Mz9 (rfl) (rfl) (rfl) (Nat.le_refl _) (Nat.le_refl _) dX6_told_67
  ·
    refine lv_iload_n hx hb dX6_told_0 rfl (lv_at hl9 2 rfl) ?_
    refine lv_tableIn (tgt := 68) (off := 67) hx hb dX6_told_1 (by decide) (by decide) rfl (by decide) ?_
    refine lv_aload_n hx hb dX6_told_68 rfl (lv_at hl9 0 rfl) ?_
    refine z_getf Z Mz9 hin6 0 rfl rfl 12 (by decide) L40 rfl (v := .ref (ad 12)) rfl dX6_told_69 ?_
    refine lv_iload_n hx hb dX6_told_72 rfl (lv_at hl9 1 rfl) ?_
    refine z_iald Z Mz9 11 (h0 := ad 12) (n := 12) (f := σ 12) rfl (j := i) (by omega) (by decide) dX6_told_73 ?_
    exact hret _ _ _ _ _ sl9 _ _ Mz9 (rfl) (rfl) (rfl) (Nat.le_refl _) (Nat.le_refl _) dX6_told_74
  ·
    refine lv_iload_n hx hb dX6_told_0 rfl (lv_at hl9 2 rfl) ?_
    refine lv_tableIn (tgt := 75) (off := 74) hx hb dX6_told_1 (by decide) (by decide) rfl (by decide) ?_
    refine lv_aload_n hx hb dX6_told_75 rfl (lv_at hl9 0 rfl) ?_
    refine z_getf Z Mz9 hin6 0 rfl rfl 11 (by decide) L37 rfl (v := .ref (ad 11)) rfl dX6_told_76 ?_
    refine lv_iload_n hx hb dX6_told_79 rfl (lv_at hl9 1 rfl) ?_
    refine z_iald Z Mz9 10 (h0 := ad 11) (n := 12) (f := σ 11) rfl (j := i) (by omega) (by decide) dX6_told_80 ?_
    exact hret _ _ _ _ _ sl9 _ _ Mz9 (rfl) (rfl) (rfl) (Nat.le_refl _) (Nat.le_refl _) dX6_told_81
  ·
    refine lv_iload_n hx hb dX6_told_0 rfl (lv_at hl9 2 rfl) ?_
    refine lv_tableIn (tgt := 82) (off := 81) hx hb dX6_told_1 (by decide) (by decide) rfl (by decide) ?_
    refine lv_aload_n hx hb dX6_told_82 rfl (lv_at hl9 0 rfl) ?_
    refine z_getf Z Mz9 hin6 0 rfl rfl 13 (by decide) L43 rfl (v := .ref (ad 13)) rfl dX6_told_83 ?_
    refine lv_iload_n hx hb dX6_told_86 rfl (lv_at hl9 1 rfl) ?_
    refine z_iald Z Mz9 12 (h0 := ad 13) (n := 12) (f := σ 13) rfl (j := i) (by omega) (by decide) dX6_told_87 ?_
    exact hret _ _ _ _ _ sl9 _ _ Mz9 (rfl) (rfl) (rfl) (Nat.le_refl _) (Nat.le_refl _) dX6_told_88
  ·
    refine lv_iload_n hx hb dX6_told_0 rfl (lv_at hl9 2 rfl) ?_
    refine lv_tableIn (tgt := 89) (off := 88) hx hb dX6_told_1 (by decide) (by decide) rfl (by decide) ?_
    refine lv_aload_n hx hb dX6_told_89 rfl (lv_at hl9 0 rfl) ?_
    refine z_getf Z Mz9 hin6 0 rfl rfl 14 (by decide) L46 rfl (v := .ref (ad 14)) rfl dX6_told_90 ?_
    refine lv_iload_n hx hb dX6_told_93 rfl (lv_at hl9 1 rfl) ?_
    refine z_zald Z Mz9 13 (h0 := ad 14) (n := 12) (f := σ 14) rfl (j := i) (by omega) (by decide) dX6_told_94 ?_
    refine lv_if_eq (tgt := 102) hx hb dX6_told_95 (by decide) (fun c_1 => ?_) (fun c_1 => ?_)
    ·
      refine lv_iconst (v := 0) hx hb dX6_told_102 (by decide) ?_
      exact hret _ _ _ _ _ sl9 _ _ Mz9 (rfl) (by simp only [tld, if_pos c_1]) (rfl) (Nat.le_refl _) (Nat.le_refl _) dX6_told_103
    ·
      refine lv_iconst (v := 1) hx hb dX6_told_98 (by decide) ?_
      refine lv_goto (tgt := 103) hx hb dX6_told_99 (by decide) ?_
      exact hret _ _ _ _ _ sl9 _ _ Mz9 (rfl) (by simp only [tld, if_neg c_1]) (rfl) (Nat.le_refl _) (Nat.le_refl _) dX6_told_103
  ·
    refine lv_iload_n hx hb dX6_told_0 rfl (lv_at hl9 2 rfl) ?_
    refine lv_tableIn (tgt := 104) (off := 103) hx hb dX6_told_1 (by decide) (by decide) rfl (by decide) ?_
    refine lv_aload_n hx hb dX6_told_104 rfl (lv_at hl9 0 rfl) ?_
    refine z_getf Z Mz9 hin6 0 rfl rfl 15 (by decide) L50 rfl (v := .ref (ad 15)) rfl dX6_told_105 ?_
    refine lv_iload_n hx hb dX6_told_108 rfl (lv_at hl9 1 rfl) ?_
    refine z_iald Z Mz9 14 (h0 := ad 15) (n := 12) (f := σ 15) rfl (j := i) (by omega) (by decide) dX6_told_109 ?_
    exact hret _ _ _ _ _ sl9 _ _ Mz9 (rfl) (rfl) (rfl) (Nat.le_refl _) (Nat.le_refl _) dX6_told_110
  ·
    refine lv_iload_n hx hb dX6_told_0 rfl (lv_at hl9 2 rfl) ?_
    refine lv_tableOut (tgt := 111) hx hb dX6_told_1 (by decide) (by decide) ?_
    refine lv_aload_n hx hb dX6_told_111 rfl (lv_at hl9 0 rfl) ?_
    refine z_getf Z Mz9 hin6 0 rfl rfl 16 (by decide) L53 rfl (v := .ref (ad 16)) rfl dX6_told_112 ?_
    refine lv_iload_n hx hb dX6_told_115 rfl (lv_at hl9 1 rfl) ?_
    refine z_iald Z Mz9 15 (h0 := ad 16) (n := 12) (f := σ 16) rfl (j := i) (by omega) (by decide) dX6_told_116 ?_
    exact hret _ _ _ _ _ sl9 _ _ Mz9 (rfl) (rfl) (rfl) (Nat.le_refl _) (Nat.le_refl _) dX6_told_117
