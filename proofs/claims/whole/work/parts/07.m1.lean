/-! ===== laid by program ===== -/
set_option maxHeartbeats 4000000 in
set_option maxRecDepth 100000 in
theorem cm_in (l : Launch) (v lo hi : Int32) : ZS l yX6_in wsX6_in (zrm 0 0) [.int (v), .int (lo), .int (hi)] (bin v lo hi) := by
  refine z_inS (cc := cX6_in) (maxL := 3) (rt := .boolean) (by decide +kernel) rfl (Nat.le_of_ble_eq_true rfl) ?_
  intro p e s m args below meth c ls Q Z hl hret
  have Z : CallFix p m c cX6_in 3 s args wsX6_in RX6 := Z
  have hx := Z.1
  have hb := Z.2.1
  have hts := Z.2.2.2.2
  generalize hH : s.heap = H at hret ⊢
  have hl : lv_has ls 3 [(0, .int (v)), (1, .int (lo)), (2, .int (hi))] := hl
  refine lv_iload_n hx hb dX6_in_0 rfl (lv_at hl 0 rfl) ?_
  refine lv_iload_n hx hb dX6_in_1 rfl (lv_at hl 1 rfl) ?_
  refine lv_icmp_lt (tgt := 14) hx hb dX6_in_2 (by decide) (fun c_1 => ?_) (fun c_1 => ?_)
  ·
    refine lv_iconst (v := 0) hx hb dX6_in_14 (by decide) ?_
    exact hret _ ls _ (by simp only [bin, if_pos c_1]) (rfl) dX6_in_15
  ·
    refine lv_iload_n hx hb dX6_in_5 rfl (lv_at hl 0 rfl) ?_
    refine lv_iload_n hx hb dX6_in_6 rfl (lv_at hl 2 rfl) ?_
    refine lv_icmp_gt (tgt := 14) hx hb dX6_in_7 (by decide) (fun c_2 => ?_) (fun c_2 => ?_)
    ·
      refine lv_iconst (v := 0) hx hb dX6_in_14 (by decide) ?_
      exact hret _ ls _ (by simp only [bin, if_neg c_1, if_pos c_2]) (rfl) dX6_in_15
    ·
      refine lv_iconst (v := 1) hx hb dX6_in_10 (by decide) ?_
      refine lv_goto (tgt := 15) hx hb dX6_in_11 (by decide) ?_
      exact hret _ ls _ (by simp only [bin, if_neg c_1, if_neg c_2]) (rfl) dX6_in_15
set_option maxHeartbeats 4000000 in
set_option maxRecDepth 100000 in
theorem cm_least (l : Launch) (a b : Int32) : ZS l yX6_least wsX6_least (zrm 0 0) [.int (a), .int (b)] (imin a b) := by
  refine z_inS (cc := cX6_least) (maxL := 2) (rt := .int) (by decide +kernel) rfl (Nat.le_of_ble_eq_true rfl) ?_
  intro p e s m args below meth c ls Q Z hl hret
  have Z : CallFix p m c cX6_least 2 s args wsX6_least RX6 := Z
  have hx := Z.1
  have hb := Z.2.1
  have hts := Z.2.2.2.2
  generalize hH : s.heap = H at hret ⊢
  have hl : lv_has ls 2 [(0, .int (a)), (1, .int (b))] := hl
  refine lv_iload_n hx hb dX6_least_0 rfl (lv_at hl 0 rfl) ?_
  refine lv_iload_n hx hb dX6_least_1 rfl (lv_at hl 1 rfl) ?_
  refine lv_icmp_ge (tgt := 9) hx hb dX6_least_2 (by decide) (fun c_1 => ?_) (fun c_1 => ?_)
  ·
    refine lv_iload_n hx hb dX6_least_9 rfl (lv_at hl 1 rfl) ?_
    exact hret _ ls _ (by simp only [imin, if_neg (Int32.not_lt.mpr c_1)]) (rfl) dX6_least_10
  ·
    refine lv_iload_n hx hb dX6_least_5 rfl (lv_at hl 0 rfl) ?_
    refine lv_goto (tgt := 10) hx hb dX6_least_6 (by decide) ?_
    exact hret _ ls _ (by simp only [imin, if_pos (Int32.not_le.mp c_1)]) (rfl) dX6_least_10
set_option maxHeartbeats 4000000 in
set_option maxRecDepth 100000 in
theorem cm_isSection (l : Launch) (k : Int32) : ZS l yX6_isSection wsX6_isSection (zrm 1 22) [.int (k)] (bin k 0 7) := by
  refine z_inS (cc := cX6_isSection) (maxL := 1) (rt := .boolean) (by decide +kernel) rfl (Nat.le_of_ble_eq_true rfl) ?_
  intro p e s m args below meth c ls Q Z hl hret
  have Z : CallFix p m c cX6_isSection 1 s args wsX6_isSection RX6 := Z
  have hx := Z.1
  have hb := Z.2.1
  have hts := Z.2.2.2.2
  generalize hH : s.heap = H at hret ⊢
  have hl : lv_has ls 1 [(0, .int (k))] := hl
  refine lv_iload_n hx hb dX6_isSection_0 rfl (lv_at hl 0 rfl) ?_
  refine lv_iconst (v := 0) hx hb dX6_isSection_1 (by decide) ?_
  refine lv_bipush (v := 7) hx hb dX6_isSection_2 (by decide) ?_
  refine z_callSi (As := [.int (k), .int 0, .int 7]) (rest := []) Z (cm_in l (k) (0) (7)) (va_cwS 3 hts gX6_isSection_X6_in rfl rfl rfl (by decide +kernel) ⟨by decide, by decide⟩) rfl hl.1 (by decide) dX6_isSection_4 ⟨by decide, by decide⟩ rfl ?_
  exact hret _ ls _ (rfl) (bin_n _ _ _) dX6_isSection_7
set_option maxHeartbeats 4000000 in
set_option maxRecDepth 100000 in
theorem cm_neighbour (l : Launch) (k : Nat) (hk : k < 8) : ZS l yX6_neighbour wsX6_neighbour (zrm 0 0) [.int (nI (k))] (nI (nbr k)) := by
  refine z_inS (cc := cX6_neighbour) (maxL := 1) (rt := .int) (by decide +kernel) rfl (Nat.le_of_ble_eq_true rfl) ?_
  intro p e s m args below meth c ls Q Z hl hret
  have Z : CallFix p m c cX6_neighbour 1 s args wsX6_neighbour RX6 := Z
  have hx := Z.1
  have hb := Z.2.1
  have hts := Z.2.2.2.2
  generalize hH : s.heap = H at hret ⊢
  have hl : lv_has ls 1 [(0, .int (nI (k)))] := hl
  refine lv_iload_n hx hb dX6_neighbour_0 rfl (lv_at hl 0 rfl) ?_
  refine lv_bipush (v := 7) hx hb dX6_neighbour_1 (by decide) ?_
  refine zn_icmp_ne (a := k) (b := 7) (tgt := 12) (by omega) (by decide) hx hb dX6_neighbour_3 (by decide) (fun c_1 => ?_) (fun c_1 => ?_)
  ·
    refine lv_iload_n hx hb dX6_neighbour_12 rfl (lv_at hl 0 rfl) ?_
    refine lv_iconst (v := 1) hx hb dX6_neighbour_13 (by decide) ?_
    refine zn_iadd (a := k) (b := 1) hx hb dX6_neighbour_14 ?_
    exact hret _ ls _ (by simp only [nbr, if_neg c_1]) (rfl) dX6_neighbour_15
  ·
    refine lv_iload_n hx hb dX6_neighbour_6 rfl (lv_at hl 0 rfl) ?_
    refine lv_iconst (v := 1) hx hb dX6_neighbour_7 (by decide) ?_
    refine zn_isub (a := k) (b := 1) (by omega) hx hb dX6_neighbour_8 ?_
    refine lv_goto (tgt := 15) hx hb dX6_neighbour_9 (by decide) ?_
    exact hret _ ls _ (by simp only [nbr, if_pos c_1]) (rfl) dX6_neighbour_15
set_option maxHeartbeats 4000000 in
set_option maxRecDepth 100000 in
theorem cm_goes (l : Launch) (D : va_G) (T : Nat → ClassId) (o : Nat) (ad : Nat → Nat) (σ : Nat → Nat → Int32) (f s9 t : Int32) : ZI l yX6_goes wsX6_goes (zrm 0 0) D T (mW o ad T σ) (mW o ad T (upS σ 31 (fun _ => gth f s9 t))) [.ref o, .int (f), .int (s9), .int (t)] (if gth f s9 t = 0 then 1 else 0) 0 0 := by
  refine z_inI (cc := cX6_goes) (maxL := 4) (rt := .boolean) (by decide +kernel) rfl (Nat.le_of_ble_eq_true rfl) ?_
  intro p e s m args below meth c ls A Q Z hnm M hl hret
  have Z : zC p s m args c cX6_goes 4 RX6 wsX6_goes D T A := Z
  have hx := Z.1.1
  have hb := Z.1.2.1
  have hts := Z.1.2.2.2.2
  have hin6 : ∀ w ∈ wsX60, w ∈ wsX6_goes := fun w h => List.mem_cons_of_mem _ (List.mem_append_right _ h)
  have hH0 : s.heap = s.heap := rfl
  have L90 := hts (.fieldLink RX6 90 "AnvilHouseModel" "thrown" "I") (by decide +kernel)
  have hl : lv_has ls 4 [(0, .ref o), (1, .int (f)), (2, .int (s9)), (3, .int (t))] := hl
  refine lv_aload_n hx hb dX6_goes_0 rfl (lv_at hl 0 rfl) ?_
  refine lv_iload_n hx hb dX6_goes_1 rfl (lv_at hl 1 rfl) ?_
  refine lv_if_ne (tgt := 9) hx hb dX6_goes_2 (by decide) (fun c_1 => ?_) (fun c_1 => ?_)
  ·
    refine lv_iload_n hx hb dX6_goes_9 rfl (lv_at hl 2 rfl) ?_
    refine lv_if_ne (tgt := 17) hx hb dX6_goes_10 (by decide) (fun c_2 => ?_) (fun c_2 => ?_)
    ·
      refine lv_iload_n hx hb dX6_goes_17 rfl (lv_at hl 3 rfl) ?_
      refine lv_if_ne (tgt := 25) hx hb dX6_goes_18 (by decide) (fun c_3 => ?_) (fun c_3 => ?_)
      ·
        refine lv_iconst (v := 0) hx hb dX6_goes_25 (by decide) ?_
        refine z_putf Z M hin6 tyX6 tyX6_ok nmX6 0 rfl rfl 31 (by decide) L90 rfl rfl (ty := .int) rfl rfl rfl (Nat.le_of_ble_eq_true rfl) (ws' := mW o ad T (upS σ 31 (fun _ => 0))) rfl dX6_goes_26 (fun H locs M => ?_)
        refine lv_aload_n hx hb dX6_goes_29 rfl (lv_at hl 0 rfl) ?_
        refine z_getf Z M hin6 0 rfl rfl 31 (by decide) L90 rfl (v := .int 0) rfl dX6_goes_30 ?_
        refine lv_if_ne (tgt := 40) hx hb dX6_goes_33 (by decide) (fun h => absurd h (by decide)) (fun _ => ?_)
        refine lv_iconst (v := 1) hx hb dX6_goes_36 (by decide) ?_
        refine lv_goto (tgt := 41) hx hb dX6_goes_37 (by decide) ?_
        exact hret _ _ _ _ _ ls _ _ M (by simp only [gth, if_neg c_1, if_neg c_2, if_neg c_3]) (by simp only [gth, if_neg c_1, if_neg c_2, if_neg c_3]; decide) (rfl) (Nat.le_refl _) (Nat.le_refl _) dX6_goes_41
      ·
        refine lv_iconst (v := 3) hx hb dX6_goes_21 (by decide) ?_
        refine lv_goto (tgt := 26) hx hb dX6_goes_22 (by decide) ?_
        refine z_putf Z M hin6 tyX6 tyX6_ok nmX6 0 rfl rfl 31 (by decide) L90 rfl rfl (ty := .int) rfl rfl rfl (Nat.le_of_ble_eq_true rfl) (ws' := mW o ad T (upS σ 31 (fun _ => 3))) rfl dX6_goes_26 (fun H locs M => ?_)
        refine lv_aload_n hx hb dX6_goes_29 rfl (lv_at hl 0 rfl) ?_
        refine z_getf Z M hin6 0 rfl rfl 31 (by decide) L90 rfl (v := .int 3) rfl dX6_goes_30 ?_
        refine lv_if_ne (tgt := 40) hx hb dX6_goes_33 (by decide) (fun _ => ?_) (fun h => absurd h (by decide))
        refine lv_iconst (v := 0) hx hb dX6_goes_40 (by decide) ?_
        exact hret _ _ _ _ _ ls _ _ M (by simp only [gth, if_neg c_1, if_neg c_2, if_pos c_3]) (by simp only [gth, if_neg c_1, if_neg c_2, if_pos c_3]; decide) (rfl) (Nat.le_refl _) (Nat.le_refl _) dX6_goes_41
    ·
      refine lv_iconst (v := 2) hx hb dX6_goes_13 (by decide) ?_
      refine lv_goto (tgt := 26) hx hb dX6_goes_14 (by decide) ?_
      refine z_putf Z M hin6 tyX6 tyX6_ok nmX6 0 rfl rfl 31 (by decide) L90 rfl rfl (ty := .int) rfl rfl rfl (Nat.le_of_ble_eq_true rfl) (ws' := mW o ad T (upS σ 31 (fun _ => 2))) rfl dX6_goes_26 (fun H locs M => ?_)
      refine lv_aload_n hx hb dX6_goes_29 rfl (lv_at hl 0 rfl) ?_
      refine z_getf Z M hin6 0 rfl rfl 31 (by decide) L90 rfl (v := .int 2) rfl dX6_goes_30 ?_
      refine lv_if_ne (tgt := 40) hx hb dX6_goes_33 (by decide) (fun _ => ?_) (fun h => absurd h (by decide))
      refine lv_iconst (v := 0) hx hb dX6_goes_40 (by decide) ?_
      exact hret _ _ _ _ _ ls _ _ M (by simp only [gth, if_neg c_1, if_pos c_2]) (by simp only [gth, if_neg c_1, if_pos c_2]; decide) (rfl) (Nat.le_refl _) (Nat.le_refl _) dX6_goes_41
  ·
    refine lv_iconst (v := 1) hx hb dX6_goes_5 (by decide) ?_
    refine lv_goto (tgt := 26) hx hb dX6_goes_6 (by decide) ?_
    refine z_putf Z M hin6 tyX6 tyX6_ok nmX6 0 rfl rfl 31 (by decide) L90 rfl rfl (ty := .int) rfl rfl rfl (Nat.le_of_ble_eq_true rfl) (ws' := mW o ad T (upS σ 31 (fun _ => 1))) rfl dX6_goes_26 (fun H locs M => ?_)
    refine lv_aload_n hx hb dX6_goes_29 rfl (lv_at hl 0 rfl) ?_
    refine z_getf Z M hin6 0 rfl rfl 31 (by decide) L90 rfl (v := .int 1) rfl dX6_goes_30 ?_
    refine lv_if_ne (tgt := 40) hx hb dX6_goes_33 (by decide) (fun _ => ?_) (fun h => absurd h (by decide))
    refine lv_iconst (v := 0) hx hb dX6_goes_40 (by decide) ?_
    exact hret _ _ _ _ _ ls _ _ M (by simp only [gth, if_pos c_1]) (by simp only [gth, if_pos c_1]; decide) (rfl) (Nat.le_refl _) (Nat.le_refl _) dX6_goes_41
set_option maxHeartbeats 4000000 in
set_option maxRecDepth 100000 in
theorem cm_isBillet (l : Launch) (D : va_G) (T : Nat → ClassId) (o : Nat) (ad : Nat → Nat) (σ : Nat → Nat → Int32) (k : Int32) : ZI l yX6_isBillet wsX6_isBillet (zrm 1 22) D T (mW o ad T σ) (mW o ad T σ) [.ref o, .int (k)] (bin k 0 (σ 5 0 - 1)) 0 0 := by
  refine z_inI (cc := cX6_isBillet) (maxL := 2) (rt := .boolean) (by decide +kernel) rfl (Nat.le_of_ble_eq_true rfl) ?_
  intro p e s m args below meth c ls A Q Z hnm M hl hret
  have Z : zC p s m args c cX6_isBillet 2 RX6 wsX6_isBillet D T A := Z
  have hx := Z.1.1
  have hb := Z.1.2.1
  have hts := Z.1.2.2.2.2
  have hin6 : ∀ w ∈ wsX60, w ∈ wsX6_isBillet := fun w h => List.mem_cons_of_mem _ (List.mem_append_right _ h)
  have hH0 : s.heap = s.heap := rfl
  have L93 := hts (.fieldLink RX6 93 "AnvilHouseModel" "billets" "I") (by decide +kernel)
  have hl : lv_has ls 2 [(0, .ref o), (1, .int (k))] := hl
  refine lv_iload_n hx hb dX6_isBillet_0 rfl (lv_at hl 1 rfl) ?_
  refine lv_iconst (v := 0) hx hb dX6_isBillet_1 (by decide) ?_
  refine lv_aload_n hx hb dX6_isBillet_2 rfl (lv_at hl 0 rfl) ?_
  refine z_getf Z M hin6 0 rfl rfl 5 (by decide) L93 rfl (v := .int (σ 5 0)) rfl dX6_isBillet_3 ?_
  refine lv_iconst (v := 1) hx hb dX6_isBillet_6 (by decide) ?_
  refine lv_isub hx hb dX6_isBillet_7 ?_
  refine z_callSi (As := [.int (k), .int 0, .int ((σ 5 0) - 1)]) (rest := []) Z.1 (cm_in l (k) (0) ((σ 5 0) - 1)) (va_cwS 3 hts gX6_isBillet_X6_in rfl rfl rfl (by decide +kernel) ⟨by decide, by decide⟩) rfl hl.1 (by decide) dX6_isBillet_8 ⟨by decide, by decide⟩ rfl ?_
  exact hret _ _ _ _ _ ls _ _ M (rfl) (rfl) (bin_n _ _ _) (Nat.le_refl _) (Nat.le_refl _) dX6_isBillet_11
set_option maxHeartbeats 4000000 in
set_option maxRecDepth 100000 in
theorem cm_isDie (l : Launch) (D : va_G) (T : Nat → ClassId) (o : Nat) (ad : Nat → Nat) (σ : Nat → Nat → Int32) (k : Int32) : ZI l yX6_isDie wsX6_isDie (zrm 1 22) D T (mW o ad T σ) (mW o ad T σ) [.ref o, .int (k)] (bin k 0 (σ 21 0 - 1)) 0 0 := by
  refine z_inI (cc := cX6_isDie) (maxL := 2) (rt := .boolean) (by decide +kernel) rfl (Nat.le_of_ble_eq_true rfl) ?_
  intro p e s m args below meth c ls A Q Z hnm M hl hret
  have Z : zC p s m args c cX6_isDie 2 RX6 wsX6_isDie D T A := Z
  have hx := Z.1.1
  have hb := Z.1.2.1
  have hts := Z.1.2.2.2.2
  have hin6 : ∀ w ∈ wsX60, w ∈ wsX6_isDie := fun w h => List.mem_cons_of_mem _ (List.mem_append_right _ h)
  have hH0 : s.heap = s.heap := rfl
  have L100 := hts (.fieldLink RX6 100 "AnvilHouseModel" "dies" "I") (by decide +kernel)
  have hl : lv_has ls 2 [(0, .ref o), (1, .int (k))] := hl
  refine lv_iload_n hx hb dX6_isDie_0 rfl (lv_at hl 1 rfl) ?_
  refine lv_iconst (v := 0) hx hb dX6_isDie_1 (by decide) ?_
  refine lv_aload_n hx hb dX6_isDie_2 rfl (lv_at hl 0 rfl) ?_
  refine z_getf Z M hin6 0 rfl rfl 21 (by decide) L100 rfl (v := .int (σ 21 0)) rfl dX6_isDie_3 ?_
  refine lv_iconst (v := 1) hx hb dX6_isDie_6 (by decide) ?_
  refine lv_isub hx hb dX6_isDie_7 ?_
  refine z_callSi (As := [.int (k), .int 0, .int ((σ 21 0) - 1)]) (rest := []) Z.1 (cm_in l (k) (0) ((σ 21 0) - 1)) (va_cwS 3 hts gX6_isDie_X6_in rfl rfl rfl (by decide +kernel) ⟨by decide, by decide⟩) rfl hl.1 (by decide) dX6_isDie_8 ⟨by decide, by decide⟩ rfl ?_
  exact hret _ _ _ _ _ ls _ _ M (rfl) (rfl) (bin_n _ _ _) (Nat.le_refl _) (Nat.le_refl _) dX6_isDie_11
set_option maxHeartbeats 4000000 in
set_option maxRecDepth 100000 in
theorem cm_follows (l : Launch) (D : va_G) (T : Nat → ClassId) (o : Nat) (ad : Nat → Nat) (σ : Nat → Nat → Int32) (i : Nat) (hi : i < 12) : ZV l yX6_follows wsX6_follows (zrm 0 0) D T (mW o ad T σ) (mW o ad T (upS σ 10 (upd (σ 10) i (wrm (σ 9 i) (σ 10 i))))) [.ref o, .int (nI (i))] 0 0 := by
  refine z_inV (cc := cX6_follows) (maxL := 2) (by decide +kernel) rfl (Nat.le_of_ble_eq_true rfl) ?_
  intro p e s m args below meth c ls A Q Z hnm M hl hret
  have Z : zC p s m args c cX6_follows 2 RX6 wsX6_follows D T A := Z
  have hx := Z.1.1
  have hb := Z.1.2.1
  have hts := Z.1.2.2.2.2
  have hin6 : ∀ w ∈ wsX60, w ∈ wsX6_follows := fun w h => List.mem_cons_of_mem _ (List.mem_append_right _ h)
  have hH0 : s.heap = s.heap := rfl
  have L34 := hts (.fieldLink RX6 34 "AnvilHouseModel" "core" "[I") (by decide +kernel)
  have L31 := hts (.fieldLink RX6 31 "AnvilHouseModel" "skin" "[I") (by decide +kernel)
  have hl : lv_has ls 2 [(0, .ref o), (1, .int (nI (i)))] := hl
  refine lv_aload_n hx hb dX6_follows_0 rfl (lv_at hl 0 rfl) ?_
  refine z_getf Z M hin6 0 rfl rfl 10 (by decide) L34 rfl (v := .ref (ad 10)) rfl dX6_follows_1 ?_
  refine lv_iload_n hx hb dX6_follows_4 rfl (lv_at hl 1 rfl) ?_
  refine lv_dup2_11 hx hb dX6_follows_5 rfl rfl ?_
  refine z_iald Z M 9 (h0 := ad 10) (n := 12) (f := σ 10) rfl (j := i) (by omega) (by decide) dX6_follows_6 ?_
  refine lv_aload_n hx hb dX6_follows_7 rfl (lv_at hl 0 rfl) ?_
  refine z_getf Z M hin6 0 rfl rfl 9 (by decide) L31 rfl (v := .ref (ad 9)) rfl dX6_follows_8 ?_
  refine lv_iload_n hx hb dX6_follows_11 rfl (lv_at hl 1 rfl) ?_
  refine z_iald Z M 8 (h0 := ad 9) (n := 12) (f := σ 9) rfl (j := i) (by omega) (by decide) dX6_follows_12 ?_
  refine lv_aload_n hx hb dX6_follows_13 rfl (lv_at hl 0 rfl) ?_
  refine z_getf Z M hin6 0 rfl rfl 10 (by decide) L34 rfl (v := .ref (ad 10)) rfl dX6_follows_14 ?_
  refine lv_iload_n hx hb dX6_follows_17 rfl (lv_at hl 1 rfl) ?_
  refine z_iald Z M 9 (h0 := ad 10) (n := 12) (f := σ 10) rfl (j := i) (by omega) (by decide) dX6_follows_18 ?_
  refine lv_isub hx hb dX6_follows_19 ?_
  refine lv_bipush (v := 6) hx hb dX6_follows_20 (by decide) ?_
  refine lv_idiv hx hb dX6_follows_22 (by decide) ?_
  refine lv_iadd hx hb dX6_follows_23 ?_
  refine z_iast Z M 9 (h0 := ad 10) (n := 12) (f := σ 10) rfl (j := i) (x := ((σ 10) i) + ((((σ 9) i) - ((σ 10) i)) / 6)) (by omega) (by decide) (ws' := mW o ad T (upS σ 10 (upd (σ 10) i (((σ 10) i) + ((((σ 9) i) - ((σ 10) i)) / 6))))) rfl dX6_follows_24 (fun H locs M => ?_)
  exact hret _ _ _ _ _ ls _ M (rfl) (Nat.le_refl _) (Nat.le_refl _) dX6_follows_25
set_option maxHeartbeats 4000000 in
set_option maxRecDepth 100000 in
theorem cm_thrown (l : Launch) (D : va_G) (T : Nat → ClassId) (o : Nat) (ad : Nat → Nat) (σ : Nat → Nat → Int32)  : ZI l yX6_thrown wsX6_thrown (zrm 0 0) D T (mW o ad T σ) (mW o ad T σ) [.ref o] (σ 31 0) 0 0 := by
  refine z_inI (cc := cX6_thrown) (maxL := 1) (rt := .int) (by decide +kernel) rfl (Nat.le_of_ble_eq_true rfl) ?_
  intro p e s m args below meth c ls A Q Z hnm M hl hret
  have Z : zC p s m args c cX6_thrown 1 RX6 wsX6_thrown D T A := Z
  have hx := Z.1.1
  have hb := Z.1.2.1
  have hts := Z.1.2.2.2.2
  have hin6 : ∀ w ∈ wsX60, w ∈ wsX6_thrown := fun w h => List.mem_cons_of_mem _ (List.mem_append_right _ h)
  have hH0 : s.heap = s.heap := rfl
  have L90 := hts (.fieldLink RX6 90 "AnvilHouseModel" "thrown" "I") (by decide +kernel)
  have hl : lv_has ls 1 [(0, .ref o)] := hl
  refine lv_aload_n hx hb dX6_thrown_0 rfl (lv_at hl 0 rfl) ?_
  refine z_getf Z M hin6 0 rfl rfl 31 (by decide) L90 rfl (v := .int (σ 31 0)) rfl dX6_thrown_1 ?_
  exact hret _ _ _ _ _ ls _ _ M (rfl) (rfl) (rfl) (Nat.le_refl _) (Nat.le_refl _) dX6_thrown_4
set_option maxHeartbeats 4000000 in
set_option maxRecDepth 100000 in
theorem cm_steelIs (l : Launch) (D : va_G) (T : Nat → ClassId) (o : Nat) (ad : Nat → Nat) (σ : Nat → Nat → Int32) (i mo : Nat) (hi : i < 12) (hm : σ 6 i = nI mo) (hmo : mo < 20) : ZI l yX6_steelIs wsX6_steelIs (zrm 0 0) D T (mW o ad T σ) (mW o ad T σ) [.ref o, .int (nI (i))] (σ 4 mo) 0 0 := by
  refine z_inI (cc := cX6_steelIs) (maxL := 2) (rt := .int) (by decide +kernel) rfl (Nat.le_of_ble_eq_true rfl) ?_
  intro p e s m args below meth c ls A Q Z hnm M hl hret
  have Z : zC p s m args c cX6_steelIs 2 RX6 wsX6_steelIs D T A := Z
  have hx := Z.1.1
  have hb := Z.1.2.1
  have hts := Z.1.2.2.2.2
  have hin6 : ∀ w ∈ wsX60, w ∈ wsX6_steelIs := fun w h => List.mem_cons_of_mem _ (List.mem_append_right _ h)
  have hH0 : s.heap = s.heap := rfl
  have L19 := hts (.fieldLink RX6 19 "AnvilHouseModel" "steelOf" "[I") (by decide +kernel)
  have L22 := hts (.fieldLink RX6 22 "AnvilHouseModel" "meltOf" "[I") (by decide +kernel)
  have hl : lv_has ls 2 [(0, .ref o), (1, .int (nI (i)))] := hl
  refine lv_aload_n hx hb dX6_steelIs_0 rfl (lv_at hl 0 rfl) ?_
  refine z_getf Z M hin6 0 rfl rfl 4 (by decide) L19 rfl (v := .ref (ad 4)) rfl dX6_steelIs_1 ?_
  refine lv_aload_n hx hb dX6_steelIs_4 rfl (lv_at hl 0 rfl) ?_
  refine z_getf Z M hin6 0 rfl rfl 6 (by decide) L22 rfl (v := .ref (ad 6)) rfl dX6_steelIs_5 ?_
  refine lv_iload_n hx hb dX6_steelIs_8 rfl (lv_at hl 1 rfl) ?_
  refine z_iald Z M 5 (h0 := ad 6) (n := 12) (f := σ 6) rfl (j := i) (by omega) (by decide) dX6_steelIs_9 ?_
  refine zn_top (y := nI (mo)) (hm) ?_
  refine z_iald Z M 4 (h0 := ad 4) (n := 20) (f := σ 4) rfl (j := mo) (by omega) (by decide) dX6_steelIs_10 ?_
  exact hret _ _ _ _ _ ls _ _ M (rfl) (rfl) (rfl) (Nat.le_refl _) (Nat.le_refl _) dX6_steelIs_11
set_option maxHeartbeats 4000000 in
set_option maxRecDepth 100000 in
theorem cm_cools (l : Launch) (D : va_G) (T : Nat → ClassId) (o : Nat) (ad : Nat → Nat) (σ : Nat → Nat → Int32) (i : Nat) (hi : i < 12) : ZV l yX6_cools wsX6_cools (zrm 1 21) D T (mW o ad T σ) (mW o ad T (upS (upS σ 9 (upd (σ 9) i (clS (σ 9 i)))) 10 (upd (σ 10) i (wrm (clS (σ 9 i)) (σ 10 i))))) [.ref o, .int (nI (i))] 0 0 := by
  refine z_inV (cc := cX6_cools) (maxL := 2) (by decide +kernel) rfl (Nat.le_of_ble_eq_true rfl) ?_
  intro p e s m args below meth c ls A Q Z hnm M hl hret
  have Z : zC p s m args c cX6_cools 2 RX6 wsX6_cools D T A := Z
  have hx := Z.1.1
  have hb := Z.1.2.1
  have hts := Z.1.2.2.2.2
  have hin6 : ∀ w ∈ wsX60, w ∈ wsX6_cools := fun w h => List.mem_cons_of_mem _ (List.mem_append_right _ h)
  have hH0 : s.heap = s.heap := rfl
  have L31 := hts (.fieldLink RX6 31 "AnvilHouseModel" "skin" "[I") (by decide +kernel)
  have hl : lv_has ls 2 [(0, .ref o), (1, .int (nI (i)))] := hl
  refine lv_aload_n hx hb dX6_cools_0 rfl (lv_at hl 0 rfl) ?_
  refine z_getf Z M hin6 0 rfl rfl 9 (by decide) L31 rfl (v := .ref (ad 9)) rfl dX6_cools_1 ?_
  refine lv_iload_n hx hb dX6_cools_4 rfl (lv_at hl 1 rfl) ?_
  refine lv_dup2_11 hx hb dX6_cools_5 rfl rfl ?_
  refine z_iald Z M 8 (h0 := ad 9) (n := 12) (f := σ 9) rfl (j := i) (by omega) (by decide) dX6_cools_6 ?_
  refine lv_aload_n hx hb dX6_cools_7 rfl (lv_at hl 0 rfl) ?_
  refine z_getf Z M hin6 0 rfl rfl 9 (by decide) L31 rfl (v := .ref (ad 9)) rfl dX6_cools_8 ?_
  refine lv_iload_n hx hb dX6_cools_11 rfl (lv_at hl 1 rfl) ?_
  refine z_iald Z M 8 (h0 := ad 9) (n := 12) (f := σ 9) rfl (j := i) (by omega) (by decide) dX6_cools_12 ?_
  refine lv_bipush (v := 20) hx hb dX6_cools_13 (by decide) ?_
  refine lv_isub hx hb dX6_cools_15 ?_
  refine lv_bipush (v := 10) hx hb dX6_cools_16 (by decide) ?_
  refine lv_idiv hx hb dX6_cools_18 (by decide) ?_
  refine lv_isub hx hb dX6_cools_19 ?_
  refine z_iast Z M 8 (h0 := ad 9) (n := 12) (f := σ 9) rfl (j := i) (x := ((σ 9) i) - ((((σ 9) i) - 20) / 10)) (by omega) (by decide) (ws' := mW o ad T (upS σ 9 (upd (σ 9) i (((σ 9) i) - ((((σ 9) i) - 20) / 10))))) rfl dX6_cools_20 (fun H locs M => ?_)
  refine lv_aload_n hx hb dX6_cools_21 rfl (lv_at hl 0 rfl) ?_
  refine lv_iload_n hx hb dX6_cools_22 rfl (lv_at hl 1 rfl) ?_
  refine z_callAv (As := [.int (nI (i))]) (rest := []) (wc' := mW o ad T (upS (upS σ 9 (upd (σ 9) i (((σ 9) i) - ((((σ 9) i) - 20) / 10)))) 10 (upd (σ 10) (i) (wrm ((upd (σ 9) i (((σ 9) i) - ((((σ 9) i) - 20) / 10))) i) ((σ 10) i))))) Z M (cm_follows l D T o ad (upS σ 9 (upd (σ 9) i (((σ 9) i) - ((((σ 9) i) - 20) / 10)))) (i) (by omega)) (cwV 1 hts gX6_cools_X6_follows rfl rfl rfl (by decide +kernel) ⟨by decide, by decide⟩) (va_recv Z.2.1 M.1 (ci := 7) (q0 := 0) rfl rfl) rfl hl.1 (by decide) dX6_cools_23 ⟨by decide, by decide⟩ rfl (fun H locs M => ?_)
  exact hret _ _ _ _ _ ls _ M (by simp only [upd_same, clS, wrm]) (Nat.le_refl _) (Nat.le_refl _) dX6_cools_26
set_option maxHeartbeats 4000000 in
set_option maxRecDepth 100000 in
theorem cm_over (l : Launch) (D : va_G) (T : Nat → ClassId) (o : Nat) (ad : Nat → Nat) (σ : Nat → Nat → Int32) (i d j : Nat) (hi : i < 12) (hd : d < 4) (hj : j < 8) : ZI l yX6_over wsX6_over (zrm 0 0) D T (mW o ad T σ) (mW o ad T σ) [.ref o, .int (nI (i)), .int (nI (d)), .int (nI (j))] (σ 7 (8 * i + j) - σ 22 (8 * d + j)) 0 0 := by
  refine z_inI (cc := cX6_over) (maxL := 4) (rt := .int) (by decide +kernel) rfl (Nat.le_of_ble_eq_true rfl) ?_
  intro p e s m args below meth c ls A Q Z hnm M hl hret
  have Z : zC p s m args c cX6_over 4 RX6 wsX6_over D T A := Z
  have hx := Z.1.1
  have hb := Z.1.2.1
  have hts := Z.1.2.2.2.2
  have hin6 : ∀ w ∈ wsX60, w ∈ wsX6_over := fun w h => List.mem_cons_of_mem _ (List.mem_append_right _ h)
  have hH0 : s.heap = s.heap := rfl
  have L25 := hts (.fieldLink RX6 25 "AnvilHouseModel" "areas" "[I") (by decide +kernel)
  have L68 := hts (.fieldLink RX6 68 "AnvilHouseModel" "shapes" "[I") (by decide +kernel)
  have hl : lv_has ls 4 [(0, .ref o), (1, .int (nI (i))), (2, .int (nI (d))), (3, .int (nI (j)))] := hl
  refine lv_aload_n hx hb dX6_over_0 rfl (lv_at hl 0 rfl) ?_
  refine z_getf Z M hin6 0 rfl rfl 7 (by decide) L25 rfl (v := .ref (ad 7)) rfl dX6_over_1 ?_
  refine lv_bipush (v := 8) hx hb dX6_over_4 (by decide) ?_
  refine lv_iload_n hx hb dX6_over_6 rfl (lv_at hl 1 rfl) ?_
  refine zn_imul (a := 8) (b := i) hx hb dX6_over_7 ?_
  refine lv_iload_n hx hb dX6_over_8 rfl (lv_at hl 3 rfl) ?_
  refine zn_iadd (a := 8 * i) (b := j) hx hb dX6_over_9 ?_
  refine z_iald Z M 6 (h0 := ad 7) (n := 96) (f := σ 7) rfl (j := (8 * i) + j) (by omega) (by decide) dX6_over_10 ?_
  refine lv_aload_n hx hb dX6_over_11 rfl (lv_at hl 0 rfl) ?_
  refine z_getf Z M hin6 0 rfl rfl 22 (by decide) L68 rfl (v := .ref (ad 22)) rfl dX6_over_12 ?_
  refine lv_bipush (v := 8) hx hb dX6_over_15 (by decide) ?_
  refine lv_iload_n hx hb dX6_over_17 rfl (lv_at hl 2 rfl) ?_
  refine zn_imul (a := 8) (b := d) hx hb dX6_over_18 ?_
  refine lv_iload_n hx hb dX6_over_19 rfl (lv_at hl 3 rfl) ?_
  refine zn_iadd (a := 8 * d) (b := j) hx hb dX6_over_20 ?_
  refine z_iald Z M 20 (h0 := ad 22) (n := 32) (f := σ 22) rfl (j := (8 * d) + j) (by omega) (by decide) dX6_over_21 ?_
  refine lv_isub hx hb dX6_over_22 ?_
  exact hret _ _ _ _ _ ls _ _ M (rfl) (rfl) (rfl) (Nat.le_refl _) (Nat.le_refl _) dX6_over_23
